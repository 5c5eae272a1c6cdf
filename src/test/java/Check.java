import java.util.NoSuchElementException;

/** Counts answers that are not as due, and ends the test with 1 if there were any. */
final class Check {
    /** A call of the class, whose answer (a boolean counts 1 or 0) is looked at. */
    interface Call {
        long answer();
    }

    static final String NO_PERSON = "throws.NoSuchElementException";
    static final String WRONG = "throws.IllegalArgumentException";

    private static int wrong = 0;
    private static int asked = 0;

    private Check() {
    }

    static String answerOf(Call call) {
        try {
            return Long.toString(call.answer());
        } catch (NoSuchElementException e) {
            return NO_PERSON;
        } catch (IllegalArgumentException e) {
            return e.getClass() == IllegalArgumentException.class ? WRONG : "throws." + e.getClass().getName();
        } catch (RuntimeException e) {
            return "throws." + e.getClass().getName();
        }
    }

    static void due(String what, String got, String want) {
        asked++;
        if (!got.equals(want)) {
            wrong++;
            System.out.println(what + " answered " + got + ", due is " + want);
        }
    }

    static void due(String what, long want, Call call) {
        due(what, answerOf(call), Long.toString(want));
    }

    static void due(String what, boolean want, boolean got) {
        due(what, Boolean.toString(got), Boolean.toString(want));
    }

    static void noPerson(String what, Call call) {
        due(what, answerOf(call), NO_PERSON);
    }

    static void wrong(String what, Call call) {
        due(what, answerOf(call), WRONG);
    }

    static int wrongYet() {
        return wrong;
    }

    static void end() {
        System.out.println(asked + " answers, " + wrong + " not as due");
        System.exit(wrong == 0 ? 0 : 1);
    }

    /** Puts a text on the TAPE, filled up with bytes 0 to a multiple of twenty. */
    static void feed(DayLaces x, String text) {
        for (int from = 0; from < text.length(); from += 20) {
            x.feed(four(text, from), four(text, from + 4), four(text, from + 8), four(text, from + 12),
                four(text, from + 16));
        }
    }

    static int four(String text, int from) {
        int number = 0;
        for (int i = from; i < from + 4; i++) {
            number = number << 8 | (i < text.length() ? text.charAt(i) & 255 : 0);
        }
        return number;
    }

    static int street(DayLaces x, String text) {
        feed(x, text);
        return x.street(text.length());
    }

    static int law(DayLaces x, String text) {
        feed(x, text);
        return x.law(text.length());
    }

    static int work(DayLaces x, String text) {
        feed(x, text);
        return x.work(text.length());
    }

    static int book(DayLaces x, String text) {
        feed(x, text);
        return x.book(text.length());
    }

    /**
     * Reads a text of a kind: its answer, the place of its FAULT (-1 without), and that the TAPE is empty
     * then; all else stays, if it is not read.
     */
    static void reads(DayLaces x, String kind, String text, int answer, int place) {
        String before = State.of(x);
        due(kind + " '" + text + "'", answer, () -> kind.equals("street") ? street(x, text)
            : kind.equals("law") ? law(x, text) : kind.equals("work") ? work(x, text) : book(x, text));
        due("fault of " + kind + " '" + text + "'", place, x::fault);
        due("tape behind " + kind + " '" + text + "'", 0, () -> x.count(1));
        if (answer < 0) {
            due("all stays behind " + kind + " '" + text + "'", State.of(x), before);
        }
    }

    /** A new object with a street that must be right. */
    static DayLaces on(String street) {
        DayLaces x = new DayLaces();
        due("street " + street, answerOf(() -> street(x, street) >= 0 ? 1 : 0), "1");
        return x;
    }
}
