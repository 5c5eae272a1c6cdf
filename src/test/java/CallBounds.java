import java.util.Arrays;

/** The boundary cases of WEEKS and SEEDS, and of calls: what each refuses, what it counts, what it leaves as it was. */
final class CallBounds {
    private static final String MIXED = "person 9 2 0 0;person 4 5 3 4;person 1 9 10 0;person 6 0 3 0;person 8 8 20 20;"
        + "person 5 1 7 7;person 3 3 0 20;person 7 6 11 2;";
    private static final int ANY = Integer.MIN_VALUE;
    /** Marks in place of a least number: a PERSON; a PERSON that is refused as any argument; bits of PERSONS. */
    private static final int WHO = -10;
    private static final int WHO_AS_ANY = -11;
    private static final int BITS = -12;
    private static final int[] P = {WHO, 0};
    private static final int[] B = {BITS, 0};
    private static final int[] S = {ANY, Integer.MAX_VALUE};

    /** A call of the face that asks, by what its arguments may be: the least and the most, or a mark. */
    private record Asked(String name, int[]... each) {
    }

    private static final Asked[] ASKED = {
        new Asked("told", to(0, 11)), new Asked("person", P, to(0, 10)), new Asked("hold", P, P, to(0, 1)),
        new Asked("would", to(0, 9), to(0, 9), to(0, 999), to(0, 1), to(0, 1), to(0, 1), to(0, 999), to(0, 900)),
        new Asked("can", P, P), new Asked("ahead", to(0, 99), to(0, 2)), new Asked("catches", P), new Asked("far", P, P),
        new Asked("round", P, B), new Asked("kneel", to(0, 1)), new Asked("kneels", P), new Asked("ring", P, to(0, 1)),
        new Asked("fits", to(0, 1)), new Asked("look", to(0, 1)), new Asked("soldier", to(0, 99), to(0, 99), to(0, 2)),
        new Asked("dry", to(0, 12), to(0, 13), to(0, 16), to(0, 1)), new Asked("share", P, B, to(0, 9999)),
        new Asked("slowest", to(0, 1)), new Asked("helpers", P), new Asked("tied", P), new Asked("within", to(0, 999)),
        new Asked("days"), new Asked("kin", P), new Asked("steady"), new Asked("best", P), new Asked("gap", P, P),
        new Asked("nearest", P), new Asked("later", P, to(0, 99)), new Asked("loose"), new Asked("farthest", to(0, 1)),
        new Asked("mates", P), new Asked("middle", to(0, 1)), new Asked("week", S, to(1, 96), to(0, 16), to(0, 3)),
        new Asked("span", S, to(1, 20), to(1, 96), to(0, 16), to(0, 2), new int[] {WHO_AS_ANY, 0}), new Asked("status", S),
        new Asked("count", S), new Asked("fault")};

    private CallBounds() {
    }

    private static int[] to(int least, int most) {
        return new int[] {least, most};
    }

    static void run() {
        weekBounds();
        weeksDrawn();
        weekBeyond();
        spans();
        spanPerson();
        arguments();
        aheadOfOthers();
        nothingStaysChanged();
        lesserStreet();
        statusCounts();
        counts();
        fiveHundredCalls();
    }

    private static void weekBounds() {
        Said.promise(41, "A WEEK of so many DAYS (1 to 96), Q (0 to 16): 0 BEHIND of all together then, 1 who is TIED then (bits), "
            + "2 how often any slipped in it, 3 how often any was TIED in it.");
        DayLaces one = Check.on("person 9 0 0 0;");
        Check.law(one, "10");
        for (int seed : new int[] {0, 1, -1, Integer.MIN_VALUE, Integer.MAX_VALUE}) {
            // alone it draws itself: by Q 16 doubly always, by Q 0 never
            weekIs(one, seed, 1, 16, 0, 1, 0, 1);
            weekIs(one, seed, 96, 16, 0, 1, 0, 1);
            weekIs(one, seed, 1, 0, 1, 0, 0, 1);
            weekIs(one, seed, 96, 0, 1, 0, 0, 96);
        }
        Check.law(one, "9");
        weekIs(one, 5, 96, 16, 96, 0, 96, 0);
        Check.work(one, "again 9[tie 0 0;];");
        weekIs(one, 5, 96, 16, 96, 0, 96, 0);
        Check.law(one, "10");
        Check.work(one, "double 0 0;");
        weekIs(one, 5, 96, 0, 0, 1, 0, 0);
        Check.due("how often stays", 1, () -> one.told(11));
        int[][] wrong = {{0, 0, 0}, {97, 0, 0}, {1, -1, 0}, {1, 17, 0}, {1, 0, -1}, {1, 0, 4}};
        for (int[] w : wrong) {
            Check.wrong("week " + Arrays.toString(w), () -> one.week(0, w[0], w[1], w[2]));
        }
    }

    private static void weekIs(DayLaces x, int seed, int days, int q, int... due) {
        for (int what = 0; what <= 3; what++) {
            int w = what;
            Check.due("week " + seed + " " + days + " " + q + " " + w, due[w], () -> x.week(seed, days, q, w));
        }
    }

    /** A SEED told as a whole number from 0 on, so that nothing here wraps by itself. */
    private static long seed;

    private static int drawn(int by) {
        seed = (seed * 1103515245L + 12345L) % 4294967296L;
        return (int) (seed / 65536L % 32768L % by);
    }

    private static void weeksDrawn() {
        Said.term("A WEEK by a SEED: for so many DAYS: are there PERSONS, as often as there are PERSONS: DRAWN by how many PERSONS, A, "
            + "then DRAWN likewise, B: is DRAWN by 16 (one DRAWN more) below Q: double A B, else tie A B (if it can be done); behind "
            + "these, with PERSONS or without, day.");
        Said.term("What is DRAWN: the SEED (32 bits) becomes itself times 1,103,515,245, and 12,345 (it wraps); its bits 16 to 30, "
            + "what is left of them.");
        int[] seeds = {0, 1, -1, 12345, 99999999, Integer.MAX_VALUE, Integer.MIN_VALUE, -1103515245};
        for (int s : seeds) {
            for (int persons : new int[] {1, 3, 7, 8}) {
                for (int q : new int[] {0, 1, 8, 15, 16}) {
                    weekDrawn(s, persons, q);
                }
            }
        }
        DayLaces none = new DayLaces();
        weekIs(none, 7, 96, 16, 0, 0, 0, 0);
        weekIs(none, 7, 1, 0, 0, 0, 0, 0);
    }

    /** The STEPS that are drawn are done by WORKS, one for a DAY, and the WEEK must come to the same. */
    private static void weekDrawn(int s, int persons, int q) {
        DayLaces x = Check.on(MIXED.substring(0, nth(MIXED, persons)));
        DayLaces y = Check.on(MIXED.substring(0, nth(MIXED, persons)));
        seed = s & 4294967295L;
        for (int day = 1; day <= 8; day++) {
            StringBuilder steps = new StringBuilder();
            for (int i = 0; i < persons; i++) {
                int a = drawn(persons);
                int b = drawn(persons);
                steps.append(drawn(16) < q ? "double " : "tie ").append(a).append(' ').append(b).append(';');
            }
            Check.work(y, steps.append("day;").toString());
            weekIs(x, s, day, q, y.told(6), y.told(2), y.told(7), y.told(11));
            int days = day;
            for (int p = 0; p < persons; p++) {
                int r = p;
                Check.due("in TODAY then " + r, y.person(r, 5) == 0 ? 1 : 0, () -> x.span(s, 1, days, q, 2, r));
            }
        }
    }

    /** Where the text's n-th CLAUSE ends. */
    private static int nth(String text, int n) {
        int at = 0;
        for (int i = 0; i < n; i++) {
            at = text.indexOf(';', at) + 1;
        }
        return at;
    }

    private static void weekBeyond() {
        DayLaces x = Check.on("person 9 0 0 0;");
        StepBounds.goTo(x, 900);
        Check.law(x, "day-980");
        // slips from 900 to 989, holds from 990 on; the WEEK's last DAY is 995
        weekIs(x, 3, 96, 0, 1, 0, 90, 6);
        weekIs(x, 3, 96, 16, 0, 1, 90, 1);
        Check.due("span, too", 0, () -> x.span(3, 2, 96, 16, 1, 0));
        Check.due("today stays", 900, () -> x.told(1));
    }

    private static void spans() {
        Said.promise(42, "Of so many SEEDS (1 to 20; seed, seed and 1, ..): 0 the least BEHIND of all together then, 1 the most, "
            + "2 by how many a PERSON is BEHIND by 0 then.");
        DayLaces x = Check.on(MIXED);
        for (int first : new int[] {0, -1, -10, Integer.MAX_VALUE, Integer.MAX_VALUE - 10, Integer.MIN_VALUE}) {
            for (int many : new int[] {1, 2, 19, 20}) {
                spanIs(x, first, many, 7, 6);
            }
        }
        spanIs(x, 4, 20, 96, 16);
        spanIs(x, 4, 20, 1, 0);
        for (int many : new int[] {0, 21, -1, ANY}) {
            Check.wrong("span of " + many, () -> x.span(0, many, 1, 0, 0, 0));
        }
    }

    /** By the WEEKS of each SEED, and by spans of one SEED. */
    private static void spanIs(DayLaces x, int first, int many, int days, int q) {
        int least = Integer.MAX_VALUE;
        int most = Integer.MIN_VALUE;
        for (int i = 0; i < many; i++) {
            int behind = x.week(first + i, days, q, 0);
            least = Math.min(least, behind);
            most = Math.max(most, behind);
        }
        int l = least;
        int m = most;
        Check.due("least " + first + " " + many, l, () -> x.span(first, many, days, q, 0, 0));
        Check.due("most " + first + " " + many, m, () -> x.span(first, many, days, q, 1, 7));
        int[] by = new int[8];
        for (int i = 0; i < many; i++) {
            for (int p = 0; p < 8; p++) {
                by[p] += x.span(first + i, 1, days, q, 2, p);
            }
        }
        for (int p = 0; p < 8; p++) {
            int r = p;
            Check.due("by how many " + r, by[r], () -> x.span(first, many, days, q, 2, r));
        }
    }

    private static void spanPerson() {
        Said.promise(42, "(IllegalArgumentException: no such PERSON, also for 0, 1.)");
        DayLaces x = Check.on("person 9 0 0 0;person 0 9 0 0;");
        for (int what = 0; what <= 2; what++) {
            for (int p : new int[] {-1, 2, 8, ANY, Integer.MAX_VALUE}) {
                int w = what;
                Check.wrong("span " + w + " of " + p, () -> x.span(0, 1, 1, 0, w, p));
            }
        }
        Check.due("none is counted as no PERSON", 0, () -> x.status(0));
        Check.due("but as wrong ones", 15, () -> x.status(1));
        Check.wrong("without PERSONS", () -> new DayLaces().span(0, 1, 1, 0, 0, 0));
        // Q 16 and one alone: it is in TODAY by every SEED, and by Q 0 by none
        DayLaces one = Check.on("person 9 0 0 0;");
        Check.due("by all", 20, () -> one.span(-7, 20, 96, 16, 2, 0));
        Check.due("by none", 0, () -> one.span(-7, 20, 96, 0, 2, 0));
        Check.due("least by none", 1, () -> one.span(-7, 20, 96, 0, 0, 0));
        Check.due("most by none", 1, () -> one.span(-7, 20, 96, 0, 1, 0));
    }

    private static int least(int[] each) {
        return each[0] == WHO || each[0] == WHO_AS_ANY || each[0] == BITS ? 0 : each[0];
    }

    private static int most(int[] each, int persons) {
        return each[0] == WHO || each[0] == WHO_AS_ANY ? persons - 1 : each[0] == BITS ? (1 << persons) - 1 : each[1];
    }

    private static boolean asksForPerson(Asked call) {
        return Arrays.stream(call.each).anyMatch(e -> e[0] == WHO || e[0] == WHO_AS_ANY);
    }

    private static Object[] all(Asked call, int persons, boolean atMost) {
        return Arrays.stream(call.each).map(e -> atMost ? most(e, persons) : least(e)).toArray();
    }

    /** Every argument one below its least, one above its most, and far off; what is refused is counted, and nothing else. */
    private static void arguments() {
        for (int persons : new int[] {0, 1, 5, 8}) {
            for (Asked call : ASKED) {
                DayLaces x = busy(persons);
                String before = State.of(x);
                int[] refused = new int[2];
                for (int i = 0; i < call.each.length; i++) {
                    for (boolean atMost : new boolean[] {false, true}) {
                        argument(x, call, persons, i, atMost, refused);
                    }
                }
                Check.due(call.name + " left all as it was", State.of(x), before);
                Check.due(call.name + " refused for a PERSON", refused[0], () -> x.status(0));
                Check.due(call.name + " refused for others", refused[1], () -> x.status(1));
            }
        }
    }

    private static void argument(DayLaces x, Asked call, int persons, int i, boolean atMost, int[] refused) {
        int low = least(call.each[i]);
        int high = most(call.each[i], persons);
        boolean none = persons == 0 && asksForPerson(call);
        for (int value : new int[] {low, high, low - 1, high + 1, Integer.MIN_VALUE, Integer.MAX_VALUE, -1, 1000000}) {
            Object[] args = all(call, persons, atMost);
            args[i] = value;
            boolean seed = call.each[i][0] == ANY;
            boolean right = seed || value >= low && value <= high;
            boolean person = call.each[i][0] == WHO || call.each[0].length > 0 && none && call.each[0][0] == WHO;
            String due = right && !none ? "right" : person ? Check.NO_PERSON : Check.WRONG;
            String got = Calls.answer(x, call.name, args);
            Check.due(call.name + Arrays.toString(args) + " of " + persons, got.startsWith("throws") ? got : "right", due);
            refused[0] += due.equals(Check.NO_PERSON) ? 1 : 0;
            refused[1] += due.equals(Check.WRONG) ? 1 : 0;
        }
    }

    /** No such PERSON, and each other argument wrong as well. */
    private static void aheadOfOthers() {
        for (Asked call : ASKED) {
            for (int i = 0; i < call.each.length; i++) {
                for (int j = 0; j < call.each.length; j++) {
                    if (call.each[i][0] == WHO && i != j) {
                        DayLaces x = busy(5);
                        Object[] args = all(call, 5, true);
                        args[i] = 5;
                        args[j] = call.each[j][0] == WHO ? -1 : most(call.each[j], 5) + 1;
                        Check.due(call.name + Arrays.toString(args), Calls.answer(x, call.name, args), Check.NO_PERSON);
                        Check.due("counted once", 1, () -> x.status(0));
                        Check.due("not as another", 0, () -> x.status(1));
                    }
                }
            }
        }
    }

    /** With all that can be there: laces of every kind, a LAW, a BOOK, WORKS, IMAGES, a FAULT, bytes on the TAPE. */
    private static DayLaces busy(int persons) {
        DayLaces x = Check.on(MIXED.substring(0, nth(MIXED, persons)) + (persons > 3 ? "friend 0 3;friend 1 2;string 7;" : ""));
        Check.law(x, "fingers*3+double*9-haste+friend*5+slips+day/2");
        Check.work(x, "day;day;");
        if (persons > 3) {
            Check.work(x, "tie 0 0;double 0 3;tie 2 2;cut 1;day;mend 0;");
            x.image();
            Check.work(x, "tie 3 0;tie 2 2;undo 2;");
            Check.book(x, "0 3;2 0;");
        }
        x.image();
        Check.work(x, "mend 9");
        Check.feed(x, "day;day;day;");
        return x;
    }

    private static void nothingStaysChanged() {
        Said.term("Asked, nothing stays changed");
        for (int persons : new int[] {0, 1, 5, 8}) {
            DayLaces asked = busy(persons);
            DayLaces twin = busy(persons);
            for (Asked call : ASKED) {
                for (boolean atMost : new boolean[] {false, true}) {
                    if (persons > 0 || !asksForPerson(call)) {
                        Calls.answer(asked, call.name, all(call, persons, atMost));
                        Check.due("behind " + call.name, State.of(asked), State.of(twin));
                        Check.due("fault behind " + call.name, twin.fault(), asked::fault);
                    }
                }
            }
            Check.due("none refused", 0, () -> asked.status(0) + asked.status(1));
            // what undo and restore lead to is alike, too
            for (int i = 0; i < 4; i++) {
                Check.due("undo", twin.undo(), asked::undo);
                Check.due("undone alike", State.of(asked), State.of(twin));
                Check.due("restore", twin.restore(), asked::restore);
                Check.due("restored alike", State.of(asked), State.of(twin));
            }
        }
    }

    /** Nothing of a greater STREET, or of what was asked in it, is seen in a lesser one that is told behind it. */
    private static void lesserStreet() {
        Said.promise(3, "(TODAY 0; no LAW, BOOK, IMAGES, nothing to undo)");
        for (int persons = 0; persons <= 8; persons++) {
            seenAnew(persons, MIXED.substring(0, nth(MIXED, persons)));
            // nobody here ties a lace that holds
            seenAnew(persons, "person 0 9 1 1;".repeat(persons));
        }
    }

    private static void seenAnew(int persons, String lesser) {
        DayLaces x = busy(8);
        Check.due("the tape is emptied", -9, () -> x.law(0));
        Check.reads(x, "law", "99", 1, -1);
        Check.reads(x, "work", "cut 3;again 9[tie 6 6;day;];undo 0;tie 0 0;", 20, -1);
        for (Asked call : ASKED) {
            Calls.answer(x, call.name, all(call, 8, true));
        }
        Check.reads(x, "street", lesser, persons, -1);
        DayLaces fresh = Check.on(lesser);
        for (Asked call : ASKED) {
            for (boolean atMost : new boolean[] {false, true}) {
                Object[] args = all(call, persons, atMost);
                Check.due(call.name + Arrays.toString(args) + " of " + persons, Calls.answer(x, call.name, args),
                    Calls.answer(fresh, call.name, args));
            }
        }
    }

    private static void statusCounts() {
        Said.promise(45, "How many calls were refused: 0 NoSuchElementException, 1 IllegalArgumentException; NONE for others. "
            + "(No IMAGE keeps it.)");
        DayLaces x = Check.on(MIXED);
        Check.due("none yet", 0, () -> x.status(0) + x.status(1));
        x.image();
        for (int what : new int[] {-1, 2, ANY, Integer.MAX_VALUE}) {
            Check.due("for others", -1, () -> x.status(what));
        }
        Check.noPerson("8", () -> x.kin(8));
        Check.noPerson("both wrong are one call", () -> x.gap(8, -1));
        Check.noPerson("person and what", () -> x.ring(9, 9));
        Check.wrong("what", () -> x.told(99));
        Check.wrong("all wrong are one call", () -> x.dry(99, 99, 99, 99));
        Check.wrong("n", () -> x.street(1));
        Check.wrong("n of law", () -> x.law(-1));
        Check.due("persons", 3, () -> x.status(0));
        Check.due("arguments", 4, () -> x.status(1));
        // what is answered by NONE, -1, a FAULT or -20 was not refused by an exception
        Check.work(x, "cut 8;");
        Check.due("restored", 0, x::restore);
        x.restore();
        x.undo();
        x.count(9);
        Check.due("persons as before", 3, () -> x.status(0));
        Check.due("arguments as before", 4, () -> x.status(1));
        Check.due("a new street", 0, () -> x.street(0));
        Check.due("leaves it, too", 34, () -> 10 * x.status(0) + x.status(1));
    }

    private static void counts() {
        Said.promise(46, "0 IMAGES, 1 bytes of the TAPE, 2 WORKS that can be undone; NONE for others.");
        DayLaces x = Check.on(MIXED);
        for (int what : new int[] {-1, 3, ANY, Integer.MAX_VALUE}) {
            Check.due("for others", -1, () -> x.count(what));
        }
        countsAre(x, 0, 0, 0);
        x.image();
        countsAre(x, 1, 0, 0);
        x.feed(0, 0, 0, 0, 0);
        countsAre(x, 1, 20, 0);
        Check.due("a WORK of none", 0, () -> x.work(0));
        countsAre(x, 1, 0, 1);
        x.image();
        x.image();
        x.image();
        countsAre(x, 3, 0, 1);
        x.undo();
        countsAre(x, 3, 0, 0);
        x.restore();
        countsAre(x, 2, 0, 1);
        Check.feed(x, " ".repeat(600));
        countsAre(x, 2, 600, 1);
        Check.due("a new street", 0, () -> x.street(600));
        countsAre(x, 0, 0, 0);
    }

    private static void countsAre(DayLaces x, int images, int bytes, int works) {
        Check.due("images", images, () -> x.count(0));
        Check.due("bytes", bytes, () -> x.count(1));
        Check.due("works", works, () -> x.count(2));
    }

    private static void fiveHundredCalls() {
        Said.in("What it is", "An object is used for at most 512 calls after it has been made; what later calls answer is free.");
        DayLaces x = new DayLaces();
        for (int i = 1; i <= 511; i++) {
            int n = i;
            Check.due("call " + n, n <= 30 ? 20 * n : -1, () -> x.feed(n, n, n, n, n));
        }
        Check.due("the 512th", 600, () -> x.count(1));
    }
}
