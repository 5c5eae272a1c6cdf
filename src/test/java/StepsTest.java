/** Promises 5, 8 to 13, 20, 27, 28, 32, 33, 37: STEPS, what they change, and who could tie whom. */
public final class StepsTest {
    /** By the default law 0 holds by all, 1 just holds itself singly, 2 never, 3 well. */
    private static final String FOUR =
        "person 9 2 0 0;person 4 5 3 4;person 1 9 10 0;person 6 0 3 0;friend 0 1;friend 2 3;";

    private StepsTest() {
    }

    public static void main(String[] args) {
        tying();
        cutting();
        dayEnds();
        lastDay();
        again();
        undoing();
        holding();
        askingWho();
        rings();
        refusing();
        Check.end();
    }

    private static void tying() {
        DayLaces x = Check.on(FOUR);
        Check.due("who is not tied can't tie another", false, x.can(0, 1));
        Check.due("oneself", true, x.can(0, 0));
        Check.due("done", 2, () -> Check.work(x, "tie 1 0;tie 0 0;tie 0 0;double 0 0;tie 0 1;tie 2 0;"));
        Check.due("refused", 4, () -> x.told(10));
        Check.due("tied", 3, () -> x.told(2));
        Check.due("doubly", 0, () -> x.told(3));
        Check.due("by", 0, () -> x.person(1, 9));
        Check.due("ties", 2, () -> x.told(11));
        Check.due("a slip is a step done", 2, () -> Check.work(x, "tie 2 2;double 2 2;"));
        Check.due("slips", 2, () -> x.told(7));
        Check.due("slips of it", 2, () -> x.person(2, 8));
        Check.due("not tied by a slip", 0, () -> x.person(2, 6));
        Check.due("nobody tied it", -1, () -> x.person(2, 9));
        Check.due("ties as before", 2, () -> x.told(11));
        Check.due("doubly by another", 1, () -> Check.work(x, "double 1 3;"));
        Check.due("singly is 1", 1, () -> x.person(0, 6));
        Check.due("doubly is 2", 2, () -> x.person(3, 6));
        Check.due("doubly bits", 8, () -> x.told(3));
        Check.due("latest who did", 1, () -> x.person(3, 9));
        // 3 goes on with today; 0 is tied by it into day 2, and 1 by itself into day 3
        Check.due("days", 5, () -> Check.work(x, "day;day;tie 3 0;day;double 1 1;"));
        Check.due("today", 3, () -> x.told(1));
        Check.due("day by another", 2, () -> x.person(0, 4));
        Check.due("day by oneself", 3, () -> x.person(1, 4));
        Check.due("day with today", 3, () -> x.person(3, 4));
        Check.due("behind", 1, () -> x.person(0, 5));
        Check.due("who is behind", 5, () -> x.told(5));
        Check.due("behind together", 4, () -> x.told(6));
    }

    private static void cutting() {
        DayLaces x = Check.on(FOUR);
        Check.due("cut", 2, () -> Check.work(x, "tie 0 0;cut 0;cut 0;tie 0 0;tie 0 1;undo 0;"));
        Check.due("refused", 4, () -> x.told(10));
        Check.due("who is cut", 1, () -> x.told(4));
        Check.due("it is cut", 1, () -> x.person(0, 7));
        Check.due("it is not tied", 0, () -> x.told(2));
        Check.due("who tied it is still told", 0, () -> x.person(0, 9));
        Check.due("its day stays by a cut", 0, () -> x.person(0, 5));
        Check.due("day", 2, () -> Check.work(x, "day;day;"));
        Check.due("cut is in today", 2, () -> x.person(0, 4));
        Check.due("others are not", 0, () -> x.person(1, 4));
        Check.due("mend", 1, () -> Check.work(x, "mend 0;mend 0;mend 1;"));
        Check.due("refused mends", 2, () -> x.told(10));
        Check.due("not cut any more", 0, () -> x.person(0, 7));
        Check.due("its day stays by mend", 2, () -> x.person(0, 4));
        Check.due("cut is late at first", 1, () -> {
            Check.work(x, "cut 1;");
            return x.told(5) >> 1 & 1;
        });
    }

    private static void dayEnds() {
        DayLaces x = Check.on(FOUR);
        Check.work(x, "tie 0 0;double 3 3;day;");
        Check.due("singly is over", 8, () -> x.told(2));
        Check.due("doubly stays", 8, () -> x.told(3));
        Check.due("its day is one more", 1, () -> x.person(3, 4));
        Check.due("singly stays in its day", 0, () -> x.person(0, 4));
        Check.work(x, "day;undo 3;day;undo 3;");
        Check.due("refused undo", 1, () -> x.told(10));
        Check.due("undone stays", 2, () -> x.person(3, 4));
        Check.due("today", 3, () -> x.told(1));
    }

    private static void lastDay() {
        DayLaces x = Check.on(FOUR);
        for (int i = 0; i < 6; i++) {
            Check.due("149 days", 149, () -> Check.work(x, "again 3 [again 49 [day;];];day;day;"));
        }
        Check.due("894", 894, () -> x.told(1));
        Check.due("six more", 6, () -> Check.work(x, "again 9 [day;];"));
        Check.due("refused from 900 on", 3, () -> x.told(10));
        Check.due("900", 900, () -> x.told(1));
        Check.due("behind", 3600, () -> x.told(6));
        Check.due("ahead goes on", 4 * 999, () -> x.ahead(99, 0));
        Check.due("within", 15, () -> x.within(0));
        Check.due("catch by the law needs no more", -1, () -> x.catches(0));
        Check.law(x, "day-889");
        Check.due("catch beyond 900", 1, () -> x.catches(0));
        Check.law(x, "day-891");
        Check.due("catch beyond 900, a day later", 2, () -> x.catches(0));
        Check.due("shared all", 900, () -> x.share(0, 15, 3600));
        Check.due("shared one less", 899, () -> x.share(0, 15, 3599));
    }

    private static void again() {
        DayLaces x = Check.on(FOUR);
        Check.due("6 days", 6, () -> Check.work(x, "again 2 [again 3 [day;];];"));
        Check.due("none", 0, () -> Check.work(x, "again 0 [day;];again 60 [];"));
        Check.due("nothing refused", 0, () -> x.told(10));
        // 1 again and 199 others
        Check.due("200 begun", 0, () -> Check.work(x, "again 60 [mend 0;mend 1;mend 2;mend 3;];day;"));
        Check.due("199 refused", 199, () -> x.told(10));
        Check.due("200 begun, days", 180, () -> Check.work(x, "again 19 [again 9 [day;];];" + "day;".repeat(10)));
        Check.due("what is behind 200 is left out", 186, () -> x.told(1));
        // 1 + 19 times (1 + 9) makes 191; the 20th again and 8 days more
        DayLaces y = Check.on(FOUR);
        Check.due("cut off amid", 179, () -> Check.work(y, "again 20 [again 9 [day;];];"));
        DayLaces z = Check.on(FOUR);
        Check.due("200 over several", 197, () -> Check.work(z, "again 60 [day;day;day;];day;again 9 [day;];again 9 [day;];"));
    }

    private static void undoing() {
        DayLaces x = Check.on(FOUR);
        Check.due("none", -1, x::undo);
        Check.work(x, "tie 0 0;cut 1;tie 2 2;");
        Check.work(x, "day;mend 2;");
        Check.work(x, "");
        Check.due("works", 3, () -> x.count(2));
        Check.due("undo of no steps", 2, x::undo);
        Check.due("today", 1, () -> x.told(1));
        Check.due("done again", 1, () -> Check.work(x, "day;mend 3;cut 1;"));
        Check.due("refused two", 2, () -> x.told(10));
        Check.due("undone again", 2, x::undo);
        Check.due("refused is 0 behind undo", 0, () -> x.told(10));
        Check.due("cut was in today then", 1, () -> x.person(1, 4));
        Check.due("undo", 1, x::undo);
        Check.due("its day is back", 0, () -> x.person(1, 4));
        Check.due("today back", 0, () -> x.told(1));
        Check.due("tied back", 1, () -> x.told(2));
        Check.due("cut back", 2, () -> x.told(4));
        Check.due("slips back", 1, () -> x.told(7));
        Check.due("undo", 0, x::undo);
        Check.due("nothing tied", 0, () -> x.told(2) + x.told(4) + x.told(7) + x.told(11));
        Check.due("nobody tied 0", -1, () -> x.person(0, 9));
        Check.due("none left", -1, x::undo);
        Check.law(x, "50");
        Check.work(x, "day;");
        x.undo();
        Check.due("the law is not undone", 50, () -> x.hold(0, 0, 0));
    }

    private static void holding() {
        DayLaces x = Check.on(FOUR);
        Check.due("fingers of A, haste of B", 27, () -> x.hold(0, 2, 0));
        Check.due("doubly", 36, () -> x.hold(1, 0, 1));
        Check.due("0 at least", 0, () -> x.hold(2, 2, 0));
        Check.due("99 at most", 99, () -> {
            Check.law(x, "fingers*99");
            return x.hold(0, 1, 0);
        });
        Check.law(x, "haste*1+friend*10+self*20");
        Check.due("friend", 15, () -> x.hold(0, 1, 0));
        Check.due("friend the other way", 12, () -> x.hold(1, 0, 0));
        Check.due("self", 25, () -> x.hold(1, 1, 0));
        Check.due("neither", 0, () -> x.hold(0, 3, 0));
        Check.law(x, "behind*10+slips*3+day");
        Check.work(x, "day;tie 0 0;day;tie 1 1;");
        Check.due("slips and behind by now", 23, () -> x.hold(3, 2, 0) + 1);
        Check.due("who is tied, too", 2, () -> x.hold(3, 1, 1));
        DayLaces y = Check.on(FOUR);
        Check.law(y, "slips*4");
        Check.due("three slips, then it holds", 4, () -> Check.work(y, "tie 0 0;tie 0 0;tie 0 0;tie 0 0;"));
        Check.due("12", 12, () -> y.hold(0, 0, 0));
        Check.due("tied by then", 1, () -> y.told(11));
        Check.due("would without a law", 9 * 5 + 20 - 4 - 30, () -> new DayLaces().would(9, 2, 30, 1, 0, 0, 0, 0));
        int[] most = {9, 9, 999, 1, 1, 1, 999, 900};
        for (int i = 0; i < 8; i++) {
            int[] v = most.clone();
            v[i]++;
            Check.wrong("would beyond " + i, () -> y.would(v[0], v[1], v[2], v[3], v[4], v[5], v[6], v[7]));
            v[i] = -1;
            Check.wrong("would below " + i, () -> y.would(v[0], v[1], v[2], v[3], v[4], v[5], v[6], v[7]));
        }
        Check.due("would at the bounds", 99, () -> y.would(9, 9, 999, 1, 1, 1, 999, 900));
        Check.law(y, "friend*10+self*20+double*30");
        Check.due("would of a friend", 10, () -> y.would(0, 0, 0, 0, 1, 0, 0, 0));
        Check.due("would of oneself", 20, () -> y.would(0, 0, 0, 0, 0, 1, 0, 0));
        Check.due("would doubly", 30, () -> y.would(0, 0, 0, 1, 0, 0, 0, 0));
        Check.due("would at 0", 0, () -> y.would(0, 0, 0, 0, 0, 0, 0, 0));
        Check.due("10 holds, 9 does not", 1, () -> {
            DayLaces z = Check.on("person 9 0 0 0;person 8 0 0 0;");
            Check.law(z, "fingers+1");
            Check.work(z, "tie 0 0;tie 1 1;");
            return z.told(2);
        });
    }

    private static void askingWho() {
        DayLaces x = Check.on(FOUR);
        Check.due("steady", 11, x::steady);
        Check.due("loose", 15, x::loose);
        Check.work(x, "tie 0 0;cut 3;");
        Check.due("loose but tied and cut", 6, x::loose);
        Check.due("steady but tied and cut", 2, x::steady);
        Check.due("helpers of 1", 3, () -> x.helpers(1));
        Check.due("helpers of 2", 1, () -> x.helpers(2));
        Check.due("helpers of who is tied", 0, () -> x.helpers(0));
        Check.due("helpers of who is cut", 0, () -> x.helpers(3));
        Check.due("best of 1", 0, () -> x.best(1));
        Check.due("best of who is tied", -1, () -> x.best(0));
        Check.due("best of who is cut", -1, () -> x.best(3));
        Check.due("best whether it holds or not", 2, () -> {
            DayLaces y = Check.on(FOUR);
            return y.best(2);
        });
        Check.due("best singly, not doubly", 0, () -> {
            DayLaces y = Check.on("person 9 0 0 0;person 0 0 0 0;");
            Check.work(y, "tie 0 0;");
            Check.law(y, "30+fingers-double*fingers*2");
            return y.best(1);
        });
        Check.due("of alike ones the first", 0, () -> {
            Check.law(x, "5");
            return x.best(2);
        });
        Check.due("helpers by a law that never holds", 0, () -> x.helpers(2));
        Check.due("can by that law, too", 1, () -> x.can(0, 2) ? 1 : 0);
        Check.due("who is cut can't tie", 0, () -> x.can(3, 2) ? 1 : 0);
        Check.due("who is cut can't be tied", 0, () -> x.can(0, 3) ? 1 : 0);
    }

    private static void rings() {
        DayLaces x = Check.on("person 9 0 0 0;".repeat(5));
        Check.due("nobody", 0, () -> x.ring(0, 0) + x.ring(0, 1));
        Check.work(x, "tie 0 0;tie 0 1;tie 1 2;tie 2 3;");
        Check.due("long", 4, () -> x.ring(3, 0));
        Check.due("round again", 1, () -> x.ring(3, 1));
        Check.due("itself long", 1, () -> x.ring(0, 0));
        Check.due("itself again", 1, () -> x.ring(0, 1));
        Check.due("tied by 0", 3, () -> x.tied(0));
        Check.due("tied by 2", 8, () -> x.tied(2));
        Check.due("tied by 4", 0, () -> x.tied(4));
        Check.work(x, "undo 0;tie 3 0;cut 1;");
        Check.due("a ring of four", 4, () -> x.ring(0, 0));
        Check.due("round again", 1, () -> x.ring(0, 1));
        Check.due("cut or loose, it was tied by 0", 2, () -> x.tied(0));
        Check.due("0 was tied by 3", 1, () -> x.tied(3));
        Check.work(x, "day;");
        Check.due("days leave it", 4, () -> x.ring(2, 0));
        DayLaces y = Check.on("person 0 9 0 0;".repeat(2));
        Check.work(y, "tie 0 0;");
        Check.due("a slip ties nobody", 0, () -> y.ring(0, 0) + y.ring(0, 1));
    }

    private static void refusing() {
        DayLaces x = Check.on(FOUR);
        int[] none = {-1, 4, 8, Integer.MIN_VALUE, Integer.MAX_VALUE};
        for (int p : none) {
            Check.noPerson("person " + p, () -> x.person(p, 99));
            Check.noPerson("hold " + p, () -> x.hold(p, 0, 9));
            Check.noPerson("hold by " + p, () -> x.hold(0, p, 9));
            Check.noPerson("can " + p, () -> x.can(p, 0) ? 1 : 0);
            Check.noPerson("can by " + p, () -> x.can(0, p) ? 1 : 0);
            Check.noPerson("ring " + p, () -> x.ring(p, 9));
            Check.noPerson("helpers " + p, () -> x.helpers(p));
            Check.noPerson("tied " + p, () -> x.tied(p));
            Check.noPerson("best " + p, () -> x.best(p));
        }
        Check.wrong("told -1", () -> x.told(-1));
        Check.wrong("told 12", () -> x.told(12));
        Check.wrong("person -1", () -> x.person(0, -1));
        Check.wrong("person 11", () -> x.person(0, 11));
        Check.wrong("hold 2", () -> x.hold(0, 0, 2));
        Check.wrong("hold -1", () -> x.hold(0, 0, -1));
        Check.wrong("ring 2", () -> x.ring(0, 2));
        Check.wrong("ring -1", () -> x.ring(0, -1));
        Check.due("no persons counted", 45, () -> x.status(0));
        Check.due("wrong ones counted", 8, () -> x.status(1));
    }
}
