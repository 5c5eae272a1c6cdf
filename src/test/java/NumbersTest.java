/** Promises 23 to 25, 41 to 46: soldier, dry days, string, weeks, images, counts. */
public final class NumbersTest {
    private static final String TWO = "person 9 0 0 0;person 9 0 0 0;";

    private NumbersTest() {
    }

    public static void main(String[] args) {
        soldier();
        dry();
        share();
        week();
        span();
        images();
        counts();
        Check.end();
    }

    private static void soldier() {
        DayLaces x = new DayLaces();
        int[][] rows = {{5, 3, 2, 1, 5}, {3, 5, 1, 11, 10}, {0, 0, 4, 0, 0}, {9, 0, 3, 0, 0}, {7, 7, 3, 1, 7},
            {99, 99, 3, 1, 99}, {0, 99, 1, 11, 198}, {99, 0, 3, 0, 0}, {1, 2, 1, 11, 4}, {0, 1, 1, 11, 2}};
        for (int[] r : rows) {
            for (int what = 0; what < 3; what++) {
                int w = what;
                Check.due("soldier " + r[0] + " " + r[1] + " " + w, r[2 + w], () -> x.soldier(r[0], r[1], w));
            }
        }
        Check.wrong("v", () -> x.soldier(100, 0, 0));
        Check.wrong("v below", () -> x.soldier(-1, 0, 0));
        Check.wrong("w", () -> x.soldier(0, 100, 0));
        Check.wrong("w below", () -> x.soldier(0, -1, 0));
        Check.wrong("what", () -> x.soldier(0, 0, 3));
        Check.wrong("what below", () -> x.soldier(0, 0, -1));
    }

    private static void dry() {
        DayLaces x = new DayLaces();
        long[][] rows = {{2, 1, 8, 3, 4}, {1, 2, 8, 0, 1}, {0, 0, 8, 1, 1}, {0, 0, 16, 1, 1}, {0, 1, 0, 0, 1},
            {12, 13, 0, 0, 1}, {12, 12, 0, 1, 1}, {12, 12, 16, 0, 1}, {12, 0, 7, 1, 1}, {3, 3, 8, 1, 8},
            {1, 1, 4, 3, 4}, {2, 2, 15, 1, 256}, {12, 12, 15, 1, 281474976710656L},
            {12, 1, 15, 281474976710656L - 129746337890625L, 281474976710656L},
            {12, 3, 5, 281390298976281L, 281474976710656L}, {2, 1, 4, 15, 16}};
        for (long[] r : rows) {
            for (int part = 0; part < 2; part++) {
                int p = part;
                Check.due("dry " + r[0] + " " + r[1] + " " + r[2] + " " + p, r[3 + p],
                    () -> x.dry((int) r[0], (int) r[1], (int) r[2], p));
            }
        }
        int[][] wrong = {{13, 0, 0, 0}, {-1, 0, 0, 0}, {0, 14, 0, 0}, {0, -1, 0, 0}, {0, 0, 17, 0}, {0, 0, -1, 0},
            {0, 0, 0, 2}, {0, 0, 0, -1}};
        for (int[] w : wrong) {
            Check.wrong("dry " + w[0] + " " + w[1] + " " + w[2] + " " + w[3], () -> x.dry(w[0], w[1], w[2], w[3]));
        }
    }

    private static void share() {
        DayLaces x = Check.on("person 9 0 0 0;person 9 0 0 0;person 9 0 0 0;person 9 0 0 0;");
        Check.work(x, "day;day;tie 0 0;day;day;day;day;tie 1 1;day;day;day;tie 2 2;");
        // behind by 7, 3, 0, 9
        int[][] rows = {{0, 15, 19, 7}, {3, 15, 19, 9}, {3, 15, 18, 8}, {0, 15, 18, 7}, {0, 15, 17, 7}, {1, 15, 17, 3},
            {3, 15, 16, 6}, {3, 15, 9, 3}, {3, 15, 8, 2}, {3, 15, 2, 0}, {3, 15, 0, 0}, {2, 15, 9999, 0},
            {3, 8, 5, 5}, {3, 8, 9999, 9}, {3, 7, 9999, 0}, {0, 3, 9, 6}, {1, 3, 9, 3}, {0, 0, 5, 0}};
        for (int[] r : rows) {
            Check.due("share " + r[0] + " " + r[1] + " " + r[2], r[3], () -> x.share(r[0], r[1], r[2]));
        }
        Check.noPerson("no person, ahead of others", () -> x.share(4, 99, -1));
        Check.noPerson("below", () -> x.share(-1, 0, 0));
        Check.wrong("bits", () -> x.share(0, 16, 0));
        Check.wrong("bits below", () -> x.share(0, -1, 0));
        Check.wrong("n", () -> x.share(0, 0, 10000));
        Check.wrong("n below", () -> x.share(0, 0, -1));
    }

    private static int seed;

    private static int drawn(int by) {
        seed = seed * 1103515245 + 12345;
        return (seed >>> 16) % 32768 % by;
    }

    private static void week() {
        DayLaces x = new DayLaces();
        for (int what = 0; what < 4; what++) {
            int w = what;
            Check.due("week without persons " + w, 0, () -> x.week(1, 96, 8, w));
        }
        // one alone draws itself each day: it ties its lace and so is behind by 1 when the day is over
        DayLaces one = Check.on("person 9 0 0 0;");
        Check.due("singly", 1, () -> one.week(7, 5, 0, 0));
        Check.due("singly tied five times", 5, () -> one.week(7, 5, 0, 3));
        Check.due("doubly stays", 0, () -> one.week(7, 5, 16, 0));
        Check.due("doubly tied", 1, () -> one.week(7, 5, 16, 1));
        Check.due("doubly once", 1, () -> one.week(7, 5, 16, 3));
        Check.law(one, "9");
        Check.due("slips", 96, () -> one.week(7, 96, 3, 2));
        Check.due("behind", 96, () -> one.week(7, 96, 3, 0));
        Check.due("nothing stays", 0, () -> one.told(1) + one.told(7) + one.told(11));
        Check.due("slips in it alone", 1, () -> {
            Check.work(one, "tie 0 0;tie 0 0;");
            return one.week(7, 1, 3, 2);
        });
        // the week told by hand: its STEPS, drawn, are done as a WORK
        for (int s : new int[] {0, 1, 5, -1, 77, 123456789, Integer.MIN_VALUE}) {
            DayLaces y = Check.on("person 9 0 0 0;person 9 1 1 1;person 2 5 2 2;");
            Check.work(y, "tie 0 0;tie 2 2;");
            long[] want = new long[4];
            DayLaces z = Check.on("person 9 0 0 0;person 9 1 1 1;person 2 5 2 2;");
            Check.work(z, "tie 0 0;tie 2 2;");
            seed = s;
            for (int d = 0; d < 3; d++) {
                StringBuilder steps = new StringBuilder();
                for (int i = 0; i < 3; i++) {
                    int a = drawn(3);
                    int b = drawn(3);
                    steps.append(drawn(16) < 6 ? "double " : "tie ").append(a).append(' ').append(b).append(';');
                }
                Check.work(z, steps.append("day;").toString());
            }
            want[0] = z.told(6);
            want[1] = z.told(2);
            want[2] = z.told(7) - 1;
            want[3] = z.told(11) - 1;
            for (int what = 0; what < 4; what++) {
                int w = what;
                Check.due("week " + s + " " + w, want[w], () -> y.week(s, 3, 6, w));
            }
        }
        int[][] wrong = {{0, 0, 0}, {97, 0, 0}, {-1, 0, 0}, {1, -1, 0}, {1, 17, 0}, {1, 0, -1}, {1, 0, 4}};
        for (int[] r : wrong) {
            Check.wrong("week " + r[0] + " " + r[1] + " " + r[2], () -> x.week(0, r[0], r[1], r[2]));
        }
    }

    private static void span() {
        DayLaces x = Check.on("person 9 0 0 0;person 9 1 1 1;person 2 5 2 2;");
        int least = Integer.MAX_VALUE;
        int most = 0;
        for (int i = 0; i < 20; i++) {
            int behind = x.week(Integer.MAX_VALUE - 3 + i, 9, 5, 0);
            least = Math.min(least, behind);
            most = Math.max(most, behind);
        }
        int lo = least;
        int hi = most;
        Check.due("seeds unlike", true, lo < hi);
        Check.due("least", lo, () -> x.span(Integer.MAX_VALUE - 3, 20, 9, 5, 0, 0));
        Check.due("most", hi, () -> x.span(Integer.MAX_VALUE - 3, 20, 9, 5, 1, 2));
        Check.due("one seed", x.week(4, 9, 5, 0), () -> x.span(4, 1, 9, 5, 0, 0));
        DayLaces one = Check.on("person 9 0 0 0;");
        Check.due("always today", 20, () -> one.span(0, 20, 4, 16, 2, 0));
        Check.due("most is none", 0, () -> one.span(0, 20, 4, 16, 1, 0));
        Check.due("never today", 0, () -> one.span(0, 20, 4, 0, 2, 0));
        int[][] wrong = {{0, 1, 0, 0, 0}, {21, 1, 0, 0, 0}, {1, 0, 0, 0, 0}, {1, 97, 0, 0, 0}, {1, 1, -1, 0, 0},
            {1, 1, 17, 0, 0}, {1, 1, 0, -1, 0}, {1, 1, 0, 3, 0}, {1, 1, 0, 0, 3}, {1, 1, 0, 1, -1}, {1, 1, 0, 2, 3}};
        for (int[] r : wrong) {
            Check.wrong("span " + java.util.Arrays.toString(r), () -> x.span(0, r[0], r[1], r[2], r[3], r[4]));
        }
        Check.wrong("span without persons", () -> new DayLaces().span(0, 1, 1, 0, 0, 0));
        Check.due("all counted as wrong ones", wrong.length, () -> x.status(1));
        Check.due("none as persons", 0, () -> x.status(0));
    }

    private static void images() {
        DayLaces x = Check.on(TWO);
        Check.due("none", -1, x::restore);
        Check.work(x, "tie 0 0;mend 0;");
        Check.due("refused", 1, () -> x.told(10));
        Check.due("nothing restored, nothing changed", 1, () -> x.restore() == -1 ? x.told(10) : 9);
        Check.due("one", 1, x::image);
        Check.work(x, "day;");
        Check.due("two", 2, x::image);
        Check.work(x, "day;cut 1;mend 0;");
        x.undo();
        x.undo();
        x.undo();
        Check.work(x, "day;day;day;day;");
        Check.due("three", 3, x::image);
        Check.due("no fourth", -1, x::image);
        Check.law(x, "42");
        Check.book(x, "1 7;");
        Check.wrong("refused call", () -> x.told(99));
        Check.due("restore", 2, x::restore);
        Check.due("today", 4, () -> x.told(1));
        Check.due("works", 1, () -> x.count(2));
        Check.due("restore", 1, x::restore);
        Check.due("today then", 1, () -> x.told(1));
        Check.due("works then", 2, () -> x.count(2));
        Check.due("undo goes on from there", 1, x::undo);
        Check.due("tied again", 1, () -> x.told(2));
        Check.due("today again", 0, () -> x.told(1));
        Check.due("undo to the first", 0, x::undo);
        Check.due("nothing tied", 0, () -> x.told(2));
        Check.work(x, "mend 0;");
        Check.due("the first image", 0, x::restore);
        Check.due("tied", 1, () -> x.told(2));
        Check.due("ties", 1, () -> x.told(11));
        Check.due("refused is 0 behind restore", 0, () -> x.told(10));
        Check.due("the law is not in it", 42, () -> x.hold(0, 0, 0));
        Check.due("the book is not in it", 1, () -> x.told(9));
        Check.due("refusals are not in it", 1, () -> x.status(1));
        Check.due("none left", -1, x::restore);
        DayLaces full = Check.on(TWO);
        for (int i = 0; i < 16; i++) {
            Check.work(full, "day;");
        }
        full.image();
        for (int i = 15; i >= 0; i--) {
            int left = i;
            Check.due("undo", left, full::undo);
        }
        Check.work(full, "cut 0;");
        Check.due("restore all sixteen", 0, full::restore);
        Check.due("sixteen", 16, () -> full.count(2));
        Check.due("full", -20, () -> full.work(0));
        for (int i = 15; i >= 0; i--) {
            int left = i;
            Check.due("undo once more", left, full::undo);
            Check.due("day then", left, () -> full.told(1));
        }
    }

    private static void counts() {
        DayLaces x = Check.on(TWO);
        Check.due("status -1", -1, () -> x.status(-1));
        Check.due("status 2", -1, () -> x.status(2));
        Check.due("count -1", -1, () -> x.count(-1));
        Check.due("count 3", -1, () -> x.count(3));
        Check.noPerson("no person", () -> x.kin(2));
        Check.noPerson("no person, though what is wrong, too", () -> x.person(2, 99));
        Check.wrong("wrong", () -> x.told(99));
        Check.due("persons", 2, () -> x.status(0));
        Check.due("arguments", 1, () -> x.status(1));
        Check.due("a new street", 0, () -> x.street(0));
        Check.due("keeps what was refused", 2, () -> x.status(0));
        x.feed(0, 0, 0, 0, 0);
        Check.due("bytes", 20, () -> x.count(1));
        x.image();
        Check.due("images", 1, () -> x.count(0));
        Check.due("works", 0, () -> x.count(2));
    }
}
