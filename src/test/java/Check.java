import java.util.NoSuchElementException;

/** What the tests share: feeding of texts, answers as numbers, and the count of wrong ones. */
final class Check {
    static final long NO_ELEMENT = Long.MIN_VALUE + 1;
    static final long BAD_ARGUMENT = Long.MIN_VALUE + 2;

    interface Call {
        long ask();
    }

    private int asked = 0;
    private int wrong = 0;

    /** Puts a text on the tape, filled up with zeros to a whole feed: how long the text is. */
    static int put(TownTrain x, String text) {
        for (int at = 0; at < text.length(); at += 20) {
            int[] numbers = new int[5];
            for (int i = 0; i < 20; i++) {
                int sign = at + i < text.length() ? text.charAt(at + i) : 0;
                numbers[i / 4] = numbers[i / 4] << 8 | sign;
            }
            x.feed(numbers[0], numbers[1], numbers[2], numbers[3], numbers[4]);
        }
        return text.length();
    }

    static int train(TownTrain x, String text) {
        return x.train(put(x, text));
    }

    static int law(TownTrain x, String text) {
        return x.law(put(x, text));
    }

    static int work(TownTrain x, String text) {
        return x.work(put(x, text));
    }

    static int book(TownTrain x, String text) {
        return x.book(put(x, text));
    }

    static TownTrain told(String text) {
        TownTrain x = new TownTrain();
        int answer = train(x, text);
        if (answer < 0) {
            throw new AssertionError("the test's own train has fault " + answer + " at " + x.fault());
        }
        return x;
    }

    static long answer(Call call) {
        try {
            return call.ask();
        } catch (NoSuchElementException e) {
            return NO_ELEMENT;
        } catch (IllegalArgumentException e) {
            return BAD_ARGUMENT;
        }
    }

    static String shown(long answer) {
        if (answer == NO_ELEMENT) {
            return "NoSuchElementException";
        }
        return answer == BAD_ARGUMENT ? "IllegalArgumentException" : Long.toString(answer);
    }

    void due(String what, long got, long want) {
        asked++;
        if (got != want) {
            wrong++;
            System.out.println(what + ": answered " + shown(got) + ", due is " + shown(want));
        }
    }

    void noElement(String what, Call call) {
        due(what, answer(call), NO_ELEMENT);
    }

    void badArgument(String what, Call call) {
        due(what, answer(call), BAD_ARGUMENT);
    }

    /** A text of a train, with the answer and the place of the fault that are due. */
    void trainText(String text, int want, int place) {
        TownTrain x = new TownTrain();
        due("train '" + text + "'", train(x, text), want);
        due("fault of train '" + text + "'", x.fault(), place);
    }

    void lawText(String text, int want, int place) {
        TownTrain x = new TownTrain();
        due("law '" + text + "'", law(x, text), want);
        due("fault of law '" + text + "'", x.fault(), place);
    }

    void workText(String train, String text, int want, int place) {
        TownTrain x = told(train);
        due("work '" + text + "'", work(x, text), want);
        due("fault of work '" + text + "'", x.fault(), place);
    }

    void bookText(String text, int want, int place) {
        TownTrain x = new TownTrain();
        due("book '" + text + "'", book(x, text), want);
        due("fault of book '" + text + "'", x.fault(), place);
    }

    void end(String name) {
        System.out.println(name + ": " + asked + " answers, " + wrong + " wrong");
        if (wrong != 0) {
            System.exit(1);
        }
    }
}
