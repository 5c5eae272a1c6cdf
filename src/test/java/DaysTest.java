/** Promises 14, 15, 21, 22, 26, 29, 30, 34, 36, 39: who is in which day, and days ahead. */
public final class DaysTest {
    private static final String FOUR = "person 9 2 0 0;person 4 5 3 4;person 1 9 10 0;person 6 0 3 0;";

    private DaysTest() {
    }

    public static void main(String[] args) {
        ahead();
        catching();
        inDays();
        fitting();
        looking();
        refusing();
        Check.end();
    }

    private static void ahead() {
        DayLaces x = Check.on(FOUR);
        Check.work(x, "day;tie 0 0;double 3 3;cut 1;");
        Check.due("ahead 0", 2, () -> x.ahead(0, 0));
        Check.due("who is behind in 0", 6, () -> x.ahead(0, 1));
        Check.due("tied in 0", 9, () -> x.ahead(0, 2));
        Check.due("ahead 1", 1 + 0 + 2 + 0, () -> x.ahead(1, 0));
        Check.due("who is behind in 1", 5, () -> x.ahead(1, 1));
        Check.due("tied in 1", 8, () -> x.ahead(1, 2));
        Check.due("ahead 99", 99 + 100, () -> x.ahead(99, 0));
        Check.due("later singly", 1, () -> x.later(0, 9));
        Check.due("later cut, now", 0, () -> x.later(1, 0));
        Check.due("later cut", 10, () -> x.later(1, 9));
        Check.due("later loose", 0, () -> x.later(2, 99));
        Check.due("later doubly", 100, () -> x.later(3, 99));
        Check.due("nothing stays changed", 1, () -> x.told(1));
        Check.due("tied as before", 9, () -> x.told(2));
    }

    private static void catching() {
        DayLaces x = Check.on(FOUR);
        Check.due("not behind", 0, () -> x.catches(2));
        Check.work(x, "tie 0 0;double 1 1;undo 1;cut 3;day;");
        Check.due("cut, in today", 0, () -> x.catches(3));
        Check.due("ties itself doubly", 1, () -> x.catches(0));
        Check.due("17 holds doubly less 1", 1, () -> x.catches(1));
        Check.due("never holds", -1, () -> x.catches(2));
        Check.due("slips are not kept", 0, () -> x.told(7));
        Check.work(x, "tie 0 0;");
        Check.due("tied by itself, in today", 0, () -> x.catches(0));
        DayLaces y = Check.on("person 9 0 0 0;person 9 0 0 0;person 9 0 0 0;");
        Check.law(y, "slips*2");
        Check.work(y, "day;");
        Check.due("five slips ahead", 6, () -> y.catches(0));
        Check.law(y, "day/9");
        Check.due("in day 90 at first", 90, () -> y.catches(0));
        Check.law(y, "day/10");
        Check.due("in day 100, too late", -1, () -> y.catches(0));
        Check.law(y, "(day+1)/10");
        Check.due("in day 99", 99, () -> y.catches(0));
        Check.law(y, "99");
        Check.work(y, "cut 2;");
        Check.due("cut, a day on", 1, () -> y.catches(2));
        Check.work(y, "mend 2;double 1 1;day;day;");
        Check.due("tied doubly it goes with today", 0, () -> y.catches(1));
        Check.work(y, "undo 1;");
        Check.due("undone today", 0, () -> y.catches(1));
        Check.work(y, "day;");
        Check.due("undone a day ago", 1, () -> y.catches(1));
    }

    private static void inDays() {
        DayLaces x = Check.on(FOUR);
        Check.due("nobody is slow", -1, () -> x.slowest(0));
        Check.due("nobody is slow by", -1, () -> x.slowest(1));
        Check.due("days", 1, x::days);
        Check.work(x, "day;");
        Check.due("all by 1: the first", 0, () -> x.slowest(0));
        Check.due("by 1", 1, () -> x.slowest(1));
        x.undo();
        Check.work(x, "double 3 3;day;day;tie 0 0;day;undo 3;day;");
        // today 4; days 2 0 0 3
        Check.due("slowest, the first", 1, () -> x.slowest(0));
        Check.due("slowest by", 4, () -> x.slowest(1));
        Check.due("unlike days", 3, x::days);
        Check.due("within 0", 6, () -> x.within(0));
        Check.due("within 2", 1, () -> x.within(2));
        Check.due("within 3", 8, () -> x.within(3));
        Check.due("within 4", 0, () -> x.within(4));
        Check.due("within 999", 0, () -> x.within(999));
        Check.due("gap", 2, () -> x.gap(0, 1));
        Check.due("gap back", -3, () -> x.gap(2, 3));
        Check.due("gap to itself", 0, () -> x.gap(3, 3));
        Check.due("mates of 1", 4, () -> x.mates(1));
        Check.due("mates of 0", 0, () -> x.mates(0));
        Check.due("days without persons", 0, () -> new DayLaces().days());
    }

    private static void fitting() {
        DayLaces x = Check.on(FOUR);
        Check.due("without lines all fit", 16, () -> x.fits(0));
        Check.due("the first", 0, () -> x.fits(1));
        Check.due("without persons", 0, () -> new DayLaces().fits(0));
        Check.due("without persons the first", -1, () -> new DayLaces().fits(1));
        Check.work(x, "day;day;double 3 3;");
        // by default law now: 3 can tie 0 (28), 1 (18), 2 (10); 0 itself 39; 1 itself 8 slips; 2 slips
        Check.book(x, "2 2;");
        Check.due("2 in day 2: by 3 alone", 1, () -> x.fits(0));
        Check.due("3 ties 2", 32, () -> x.fits(1));
        Check.book(x, "0 2;");
        Check.due("0 in day 2: itself or 3", 2, () -> x.fits(0));
        Check.due("itself first", 0, () -> x.fits(1));
        Check.book(x, "0 0;");
        Check.due("0 in day 0: all others", 14, () -> x.fits(0));
        Check.due("the first of these", 1, () -> x.fits(1));
        Check.book(x, "1 0;2 0;0 0;");
        Check.due("nobody tied: all but four", 12, () -> x.fits(0));
        Check.book(x, "1 2;2 2;");
        Check.due("two at once", 0, () -> x.fits(0));
        Check.due("none first", -1, () -> x.fits(1));
        Check.due("nothing is done", 8, () -> x.told(2));
    }

    private static void looking() {
        DayLaces x = Check.on(FOUR);
        Check.due("none asked without persons", -1, () -> new DayLaces().look(0));
        Check.due("none left without persons", -1, () -> new DayLaces().look(1));
        Check.work(x, "day;day;double 3 3;");
        // 16 pairs: 0 is moved by two, 1 by one, 2 by one, 3 by none
        Check.due("ask 0", 0, () -> x.look(0));
        Check.due("14 left", 14, () -> x.look(1));
        Check.book(x, "0 0;");
        // 14 pairs: 1 is moved by one, 2 by one
        Check.due("ask 1", 1, () -> x.look(0));
        Check.due("13 left", 13, () -> x.look(1));
        Check.book(x, "0 0;1 0;");
        Check.due("ask 2", 2, () -> x.look(0));
        Check.due("12 left", 12, () -> x.look(1));
        Check.book(x, "0 9;2 0;");
        Check.due("none right: the first in no line", 1, () -> x.look(0));
        Check.due("none left", 0, () -> x.look(1));
        Check.book(x, "0 0;1 0;2 0;3 2;");
        Check.due("all in lines", -1, () -> x.look(0));
        Check.due("all in lines, left", -1, () -> x.look(1));
    }

    private static void refusing() {
        DayLaces x = Check.on(FOUR);
        int[] none = {-1, 4, Integer.MIN_VALUE, Integer.MAX_VALUE};
        for (int p : none) {
            Check.noPerson("catches " + p, () -> x.catches(p));
            Check.noPerson("gap " + p, () -> x.gap(p, 0));
            Check.noPerson("gap to " + p, () -> x.gap(0, p));
            Check.noPerson("later " + p, () -> x.later(p, 100));
            Check.noPerson("mates " + p, () -> x.mates(p));
        }
        int[] wrong = {-1, 2, Integer.MIN_VALUE, Integer.MAX_VALUE};
        for (int what : wrong) {
            Check.wrong("fits " + what, () -> x.fits(what));
            Check.wrong("look " + what, () -> x.look(what));
            Check.wrong("slowest " + what, () -> x.slowest(what));
        }
        Check.wrong("ahead -1", () -> x.ahead(-1, 0));
        Check.wrong("ahead 100", () -> x.ahead(100, 0));
        Check.wrong("ahead what", () -> x.ahead(0, 3));
        Check.wrong("ahead what -1", () -> x.ahead(0, -1));
        Check.wrong("later 100", () -> x.later(0, 100));
        Check.wrong("later -1", () -> x.later(0, -1));
        Check.wrong("within -1", () -> x.within(-1));
        Check.wrong("within 1000", () -> x.within(1000));
        Check.due("no persons counted", 20, () -> x.status(0));
        Check.due("wrong ones counted", 20, () -> x.status(1));
    }
}
