import java.util.BitSet;
import java.util.NoSuchElementException;

/** What the tests share: feeding of texts, answers as numbers, and the count of wrong ones. */
final class Check {
    static final long NO_ELEMENT = Long.MIN_VALUE + 1;
    static final long BAD_ARGUMENT = Long.MIN_VALUE + 2;

    interface Call {
        long ask();
    }

    interface IntCall {
        long ask(int argument);
    }

    private int asked = 0;
    private int wrong = 0;
    private int tests = 0;
    private String label = "";
    private final BitSet promises = new BitSet();

    /** One sentence of the document, or a part of it, with the promise that it belongs to and what must hold by it. */
    void test(int promise, String sentence, Runnable body) {
        tests++;
        promises.set(promise);
        label = "promise " + promise + ", '" + sentence + "': ";
        int before = asked;
        try {
            body.run();
        } catch (RuntimeException e) {
            due("a call that threw " + e, 1, 0);
        }
        due("the test asks something", asked > before ? 1 : 0, 1);
        label = "";
    }

    /** Puts a text on the tape, filled up with zeros to a whole feed: how long the text is. */
    static int put(TownTrain x, String text) {
        for (int at = 0; at < text.length(); at += 20) {
            int[] numbers = new int[5];
            for (int i = 0; i < 20; i++) {
                int sign = at + i < text.length() ? text.charAt(at + i) : 0;
                numbers[i / 4] = numbers[i / 4] << 8 | sign;
            }
            x.feed(numbers[0], numbers[1], numbers[2], numbers[3], numbers[4]);
        }
        return text.length();
    }

    static int train(TownTrain x, String text) {
        return x.train(put(x, text));
    }

    static int law(TownTrain x, String text) {
        return x.law(put(x, text));
    }

    static int work(TownTrain x, String text) {
        return x.work(put(x, text));
    }

    static int book(TownTrain x, String text) {
        return x.book(put(x, text));
    }

    static TownTrain told(String text) {
        TownTrain x = new TownTrain();
        int answer = train(x, text);
        if (answer < 0) {
            throw new AssertionError("the test's own train has fault " + answer + " at " + x.fault());
        }
        return x;
    }

    static long answer(Call call) {
        try {
            return call.ask();
        } catch (NoSuchElementException e) {
            return NO_ELEMENT;
        } catch (IllegalArgumentException e) {
            return BAD_ARGUMENT;
        }
    }

    static String shown(long answer) {
        if (answer == NO_ELEMENT) {
            return "NoSuchElementException";
        }
        return answer == BAD_ARGUMENT ? "IllegalArgumentException" : Long.toString(answer);
    }

    void due(String what, long got, long want) {
        asked++;
        if (got != want) {
            wrong++;
            System.out.println(label + what + ": answered " + shown(got) + ", due is " + shown(want));
        }
    }

    void noElement(String what, Call call) {
        due(what, answer(call), NO_ELEMENT);
    }

    void badArgument(String what, Call call) {
        due(what, answer(call), BAD_ARGUMENT);
    }

    /** Answers for 0, 1, and so on. */
    void row(String what, IntCall call, long... want) {
        for (int i = 0; i < want.length; i++) {
            int each = i;
            due(what + " " + i, answer(() -> call.ask(each)), want[i]);
        }
    }

    /** An argument's range: both its ends are taken, what is beyond them is refused. */
    void range(String what, IntCall call, int least, int most) {
        for (int end : new int[] {least, most}) {
            long got = answer(() -> call.ask(end));
            due(what + " " + end + " is taken", got == NO_ELEMENT || got == BAD_ARGUMENT ? 0 : 1, 1);
        }
        for (int beyond : new int[] {least - 1, most + 1, Integer.MIN_VALUE, Integer.MAX_VALUE}) {
            badArgument(what + " " + beyond, () -> call.ask(beyond));
        }
    }

    /** A wagon's number: the first and the last are taken, what is beyond them is no such element. */
    void wagons(String what, IntCall call, int many) {
        for (int end : new int[] {0, many - 1}) {
            long got = answer(() -> call.ask(end));
            due(what + " " + end + " is taken", got == NO_ELEMENT || got == BAD_ARGUMENT ? 0 : 1, 1);
        }
        for (int beyond : new int[] {-1, many, Integer.MIN_VALUE, Integer.MAX_VALUE}) {
            noElement(what + " " + beyond, () -> call.ask(beyond));
        }
    }

    /** A text of a train, with the answer and the place of the fault that are due. */
    void trainText(String text, int want, int place) {
        TownTrain x = new TownTrain();
        due("train '" + text + "'", train(x, text), want);
        due("fault of train '" + text + "'", x.fault(), place);
    }

    void lawText(String text, int want, int place) {
        TownTrain x = new TownTrain();
        due("law '" + text + "'", law(x, text), want);
        due("fault of law '" + text + "'", x.fault(), place);
    }

    void workText(String train, String text, int want, int place) {
        TownTrain x = told(train);
        due("work '" + text + "'", work(x, text), want);
        due("fault of work '" + text + "'", x.fault(), place);
    }

    void bookText(String text, int want, int place) {
        TownTrain x = new TownTrain();
        due("book '" + text + "'", book(x, text), want);
        due("fault of book '" + text + "'", x.fault(), place);
    }

    /** The end of a file that has a test for each of some promises. */
    void end(String name, int... ofPromises) {
        for (int promise : ofPromises) {
            due("tests of promise " + promise, promises.get(promise) ? 1 : 0, 1);
        }
        System.out.print(tests == 0 ? "" : name + ": " + tests + " sentences\n");
        System.out.println(name + ": " + asked + " answers, " + wrong + " wrong");
        if (wrong != 0) {
            System.exit(1);
        }
    }
}
