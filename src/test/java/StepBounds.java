/** The boundary cases that the document tells of HOLD, of STEPS, and of WORKS that are undone. */
final class StepBounds {
    /** By the law that is there without one, 0 holds always, 1 just holds itself (10), 2 never. */
    private static final String THREE = "person 9 0 0 0;person 4 5 3 4;person 1 9 10 0;";
    private static final String EIGHT = "person 9 0 0 0;".repeat(8);

    private StepBounds() {
    }

    static void run() {
        holdBounds();
        wrapping();
        dividing();
        leastAndMost();
        values();
        atFirst();
        behind();
        refusedSteps();
        tenHolds();
        dayOfTied();
        slipping();
        cutMendUndo();
        dayOnAndOn();
        daySingly();
        twoHundred();
        refusedCounted();
        undoing();
        imaging();
    }

    private static void holds(String law, int due) {
        DayLaces x = Check.on(THREE);
        Check.reads(x, "law", law, 1, -1);
        Check.due("HOLD by " + law, due, () -> x.hold(0, 1, 0));
        Check.due("would by " + law, due, () -> x.would(9, 5, 0, 0, 0, 0, 0, 0));
    }

    private static void holdBounds() {
        Said.term("HOLD of a lace that a PERSON A ties for a PERSON B (A may be B): what comes out, 0 at least, 99 at most.");
        holds("0", 0);
        holds("1", 1);
        holds("0-1", 0);
        holds("0-999*999", 0);
        holds("98", 98);
        holds("99", 99);
        holds("100", 99);
        holds("999*999", 99);
    }

    private static void wrapping() {
        Said.term("Values are whole numbers of 32 bits that wrap");
        // 512*512*512*16 is 2 to the 31st, which wraps to the least number
        holds("512*512*512*16", 0);
        holds("512*512*512*16-1", 99);
        holds("512*512*512*16-1+1", 0);
        holds("0-512*512*512*16-1", 99);
        holds("512*512*512*32+42", 42);
        holds("512*512*512*16+512*512*512*16+43", 43);
        // 641 times 6,700,417 is 2 to the 32nd, and 1
        holds("641*(67*100*100*10+417)", 1);
        holds("641*(67*100*100*10+417)*37", 37);
        holds("(0-641)*(67*100*100*10+417)+50", 49);
    }

    private static void dividing() {
        Said.term("/ cuts, % leaves (with the sign of what is divided), by 0 both are 0.");
        holds("7/2", 3);
        holds("(0-7)/2+50", 47);
        holds("7/(0-2)+50", 47);
        holds("(0-7)/(0-2)", 3);
        holds("1/2", 0);
        holds("7%4", 3);
        holds("(0-7)%4+50", 47);
        holds("7%(0-4)+50", 53);
        holds("(0-7)%(0-4)+50", 47);
        holds("7/0+50", 50);
        holds("7%0+50", 50);
        holds("0/0+50", 50);
        holds("0%0+50", 50);
        holds("(0-7)/(5-5)+50", 50);
        holds("(0-7)%day+50", 50);
        // the least number by -1 wraps to itself, and leaves 0
        holds("512*512*512*16/(0-1)-1", 99);
        holds("512*512*512*16%(0-1)+50", 50);
    }

    private static void leastAndMost() {
        holds("least[3,3]", 3);
        holds("least[0-5,5]+50", 45);
        holds("most[0-5,5]+50", 55);
        holds("least[512*512*512*16,1]-1", 99);
        holds("most[512*512*512*16,1]", 1);
    }

    private static void values() {
        Said.term("\"fingers\" (of A), \"haste\" (of B), \"behind\" (by how many days B is behind by now), "
            + "\"double\" (1: tied doubly, 0 singly), \"friend\" (1: A and B are friends, 0 not), "
            + "\"self\" (1: A is B, 0 not), \"slips\" (how often B slipped by now), \"day\" (TODAY)");
        DayLaces x = Check.on(THREE + "friend 2 0;");
        valueOf(x, "fingers", 9, 1, 9);
        valueOf(x, "haste", 5, 9, 0);
        valueOf(x, "behind", 0, 0, 0);
        valueOf(x, "friend", 0, 1, 0);
        valueOf(x, "self", 0, 0, 1);
        Check.law(x, "9");
        Check.work(x, "day;tie 1 1;day;day;cut 0;day;tie 1 1;");
        valueOf(x, "behind", 4, 0, 0);
        valueOf(x, "slips", 2, 0, 0);
        valueOf(x, "day", 4, 4, 4);
        Check.law(x, "double+10");
        Check.due("singly", 10, () -> x.hold(0, 1, 0));
        Check.due("doubly", 11, () -> x.hold(0, 1, 1));
    }

    /** HOLD for A 0, B 1; of the two that were friends, A 2, B 0 (haste of 2 by 0); and of 0 itself. */
    private static void valueOf(DayLaces x, String word, int zeroForOne, int friends, int self) {
        Check.law(x, word);
        Check.due(word + " of 0 for 1", zeroForOne, () -> x.hold(0, 1, 0));
        Check.due(word + " of friends", friends, () -> word.equals("haste") ? x.hold(0, 2, 0) : x.hold(2, 0, 0));
        Check.due(word + " of 0 itself", self, () -> x.hold(0, 0, 0));
    }

    private static void atFirst() {
        Said.term("TODAY is DAY 0 at first; all are in DAY 0, nobody is TIED, CUT, slipped, was tied by anybody.");
        DayLaces x = Check.on(EIGHT);
        int[] due = {9, 0, 0, 0, 0, 0, 0, 0, 0, -1, 0};
        for (int p = 0; p < 8; p++) {
            for (int what = 0; what <= 10; what++) {
                int q = p;
                int w = what;
                Check.due("at first: person " + q + " " + w, due[w], () -> x.person(q, w));
            }
        }
        for (int what = 1; what <= 11; what++) {
            int w = what;
            Check.due("at first: told " + w, w == 8 ? 20 : 0, () -> x.told(w));
        }
    }

    private static void behind() {
        Said.term("BEHIND is, by how much a PERSON's DAY is less than TODAY.");
        DayLaces x = Check.on(THREE);
        Check.work(x, "cut 1;day;day;mend 1;day;tie 0 0;");
        int[] due = {0, 1, 3};
        for (int p = 0; p < 3; p++) {
            int q = p;
            Check.due("behind " + q, due[q], () -> x.person(q, 5));
            Check.due("less than today " + q, due[q], () -> x.told(1) - x.person(q, 4));
        }
        Check.due("who", 6, () -> x.told(5));
        Check.due("together", 4, () -> x.told(6));
    }

    /** Does one STEP that is REFUSED: nothing done, one REFUSED, all else as it was. */
    private static void refused(DayLaces x, String step) {
        Check.work(x, "");
        String before = State.of(x);
        Check.due("refused " + step, 0, () -> Check.work(x, step));
        Check.due("counted " + step, 1, () -> x.told(10));
        x.undo();
        Check.due("changes nothing: undone", State.of(x), before);
        Check.work(x, step + step);
        Check.due("counted twice " + step, 2, () -> x.told(10));
        String[] after = State.of(x).split(" ");
        String[] as = before.split(" ");
        as[10] = "2";
        as[as.length - 1] = Integer.toString(Integer.parseInt(as[as.length - 1]) + 1);
        Check.due("changes nothing: " + step, String.join(" ", after), String.join(" ", as));
        x.undo();
        x.undo();
    }

    private static void refusedSteps() {
        Said.term("STEPS are done in order; one that can't be done is REFUSED, and changes nothing");
        Said.term("(REFUSED, if B is TIED or CUT, or A is not B and not TIED)");
        Said.term("(REFUSED, if it is CUT)");
        Said.term("(REFUSED, if it is not)");
        // 0 singly, 1 doubly tied, 2 loose and late, 3 cut, 4 loose
        DayLaces x = Check.on(EIGHT);
        Check.work(x, "double 1 1;day;day;tie 0 0;cut 3;tie 4 4;undo 4;");
        for (String word : new String[] {"tie ", "double "}) {
            refused(x, word + "0 0;");
            refused(x, word + "1 1;");
            refused(x, word + "0 1;");
            refused(x, word + "1 0;");
            refused(x, word + "3 3;");
            refused(x, word + "0 3;");
            refused(x, word + "1 3;");
            refused(x, word + "2 4;");
            refused(x, word + "4 2;");
            refused(x, word + "3 2;");
            refused(x, word + "2 0;");
            refused(x, word + "2 3;");
        }
        refused(x, "cut 3;");
        refused(x, "mend 0;");
        refused(x, "mend 1;");
        refused(x, "mend 2;");
        refused(x, "undo 2;");
        refused(x, "undo 3;");
        refused(x, "undo 4;");
        Check.due("in order: the same STEP later", 3, () -> Check.work(x, "tie 2 4;tie 2 2;mend 2;tie 2 4;cut 2;tie 2 5;"));
        Check.due("three of them", 3, () -> x.told(10));
        inOrder();
    }

    private static void inOrder() {
        String[][] rows = {{"tie 0 0;undo 0;tie 0 0;", "3"}, {"cut 0;mend 0;tie 0 0;", "3"}, {"undo 0;tie 0 0;mend 0;cut 0;", "2"},
            {"tie 0 1;tie 0 0;tie 0 1;", "2"}, {"cut 0;day;tie 0 0;mend 0;", "3"}, {"tie 0 0;day;undo 0;", "2"},
            {"double 0 0;day;undo 0;", "3"}, {"tie 0 0;cut 0;undo 0;", "2"}, {"cut 0;cut 1;tie 0 1;mend 1;mend 0;", "4"}};
        for (String[] r : rows) {
            DayLaces x = Check.on(EIGHT);
            Check.due(r[0], Integer.parseInt(r[1]), () -> Check.work(x, r[0]));
            Check.due("refused of " + r[0], r[0].split(";").length - Integer.parseInt(r[1]), () -> x.told(10));
        }
    }

    private static void tenHolds() {
        Said.term("is HOLD, singly by tie, doubly by double, 10 or more, B is TIED so, by A (the latest who did), "
            + "and is in another DAY: TODAY, if A is B, else the one in which A is;");
        DayLaces x = Check.on(EIGHT);
        Check.law(x, "9");
        Check.due("9 slips", 2, () -> Check.work(x, "tie 0 0;double 0 0;"));
        Check.due("two slips", 2, () -> x.person(0, 8));
        Check.due("not tied", 0, () -> x.told(2) + x.told(11));
        Check.law(x, "10");
        Check.due("10 holds", 2, () -> Check.work(x, "tie 0 0;double 1 1;"));
        Check.due("tied", 3, () -> x.told(2));
        Check.due("tied doubly", 2, () -> x.told(3));
        Check.due("no slips more", 2, () -> x.told(7));
        Check.law(x, "9+double");
        Check.work(x, "tie 2 2;double 3 3;tie 0 4;double 0 5;");
        Check.due("doubly alone holds", 43, () -> x.told(2));
        Check.law(x, "10-double");
        Check.work(x, "double 6 6;tie 7 7;");
        Check.due("singly alone holds", 171, () -> x.told(2));
        // the latest who did
        DayLaces y = Check.on(EIGHT);
        Check.work(y, "tie 0 0;tie 0 1;");
        Check.due("by 0", 0, () -> y.person(1, 9));
        Check.work(y, "tie 1 2;undo 1;tie 2 1;");
        Check.due("by 2", 2, () -> y.person(1, 9));
        Check.work(y, "undo 1;tie 1 1;");
        Check.due("by itself", 1, () -> y.person(1, 9));
        Check.law(y, "0");
        Check.work(y, "undo 1;tie 2 1;");
        Check.due("a slip is none", 1, () -> y.person(1, 9));
    }

    private static void dayOfTied() {
        DayLaces x = Check.on(EIGHT);
        Check.work(x, "day;day;day;double 0 0;");
        Check.due("itself: today", 3, () -> x.person(0, 4));
        Check.work(x, "day;tie 0 1;double 1 2;");
        Check.due("the one in which 0 is", 4, () -> x.person(1, 4));
        Check.due("the one in which 1 is", 4, () -> x.person(2, 4));
        Check.due("others stay", 0, () -> x.person(3, 4));
    }

    private static void slipping() {
        Said.term("is it less, B slips once more, and all else stays (the STEP is done).");
        DayLaces x = Check.on(EIGHT);
        Check.work(x, "double 0 0;tie 1 1;day;day;");
        Check.law(x, "0");
        String[] as = State.of(x).split(" \\| ");
        Check.due("the STEPS are done", 3, () -> Check.work(x, "tie 0 1;tie 1 1;double 0 1;"));
        Check.due("none refused", 0, () -> x.told(10));
        Check.due("three slips of 1", 3, () -> x.person(1, 8));
        Check.due("of all", 3, () -> x.told(7));
        String[] now = State.of(x).split(" \\| ");
        String[] one = as[2].split(" ");
        one[8] = "3";
        as[2] = String.join(" ", one);
        for (int p = 0; p < 8; p++) {
            Check.due("all else stays: person " + p, now[1 + p], as[1 + p]);
        }
        Check.due("not tied once more", 2, () -> x.told(11));
        Check.due("today", 2, () -> x.told(1));
    }

    private static void cutMendUndo() {
        Said.term("cut: A is CUT then, and not TIED (REFUSED, if it is CUT). mend: A is not CUT any more "
            + "(REFUSED, if it is not). undo: A is not TIED any more (REFUSED, if it is not).");
        DayLaces x = Check.on(EIGHT);
        Check.work(x, "tie 0 0;double 1 1;day;tie 0 0;cut 0;cut 1;cut 2;");
        Check.due("cut", 7, () -> x.told(4));
        Check.due("nobody tied", 0, () -> x.told(2));
        Check.due("days stay", 0, () -> x.person(2, 4));
        Check.due("day of the doubly tied", 1, () -> x.person(1, 4));
        Check.due("who tied it stays", 1, () -> x.person(1, 9));
        Check.work(x, "mend 0;mend 1;");
        Check.due("mended", 4, () -> x.told(4));
        Check.due("mended ones are not tied", 0, () -> x.told(2));
        Check.work(x, "tie 0 0;double 1 1;undo 0;undo 1;");
        Check.due("undone", 0, () -> x.told(2));
        Check.due("days stay by undo", 1, () -> x.person(1, 4));
        Check.due("who tied it stays by undo", 0, () -> x.person(0, 9));
    }

    /** Days enough to come from DAY 0 to another one, by as few WORKS as can be. */
    static void goTo(DayLaces x, int day) {
        int left = day - x.told(1);
        while (left > 0) {
            int some = Math.min(left, 196);
            Check.work(x, "again " + some / 4 + " [day;day;day;];again " + (some - some / 4 * 3) + " [day;];");
            left -= some;
        }
        Check.due("today", day, () -> x.told(1));
    }

    private static void dayOnAndOn() {
        Said.term("day (REFUSED from DAY 900 on)");
        DayLaces x = Check.on(EIGHT);
        Check.work(x, "double 0 0;cut 1;");
        goTo(x, 899);
        Check.law(x, "99");
        Check.work(x, "tie 2 2;double 3 3;");
        Check.due("from 899 to 900", 1, () -> Check.work(x, "day;"));
        Check.due("900", 900, () -> x.told(1));
        Check.due("with 900: doubly", 900, () -> x.person(0, 4));
        Check.due("with 900: cut", 900, () -> x.person(1, 4));
        Check.work(x, "tie 2 2;cut 4;");
        refused(x, "day;");
        Check.due("900 as before", 900, () -> x.told(1));
        Check.due("tied singly and doubly as before", 13, () -> x.told(2));
        Check.due("other STEPS go on", 1, () -> Check.work(x, "day;tie 5 5;day;"));
        DayLaces y = new DayLaces();
        goTo(y, 899);
        Check.due("one of sixty", 1, () -> Check.work(y, "again 60 [day;];"));
        Check.due("59 refused", 59, () -> y.told(10));
    }

    private static void daySingly() {
        Said.term("TODAY is one more; who is TIED singly is not any more; who is TIED doubly stays so, and its DAY is "
            + "one more, too; who is CUT: its DAY is TODAY then.");
        DayLaces x = Check.on(EIGHT);
        Check.work(x, "day;day;tie 0 0;double 1 1;cut 2;tie 3 3;undo 3;double 4 4;cut 4;");
        Check.due("ahead: cut ones", 0, () -> x.person(2, 4));
        Check.work(x, "day;");
        Check.due("one more", 3, () -> x.told(1));
        Check.due("who is tied", 2, () -> x.told(2));
        Check.due("who is tied doubly", 2, () -> x.told(3));
        int[] due = {2, 3, 3, 2, 3, 0, 0, 0};
        for (int p = 0; p < 8; p++) {
            int q = p;
            Check.due("day of " + q, due[q], () -> x.person(q, 4));
        }
        Check.work(x, "mend 2;day;day;");
        Check.due("mended it stays", 3, () -> x.person(2, 4));
        Check.due("cut it goes on", 5, () -> x.person(4, 4));
        Check.due("doubly it goes on", 5, () -> x.person(1, 4));
    }

    private static void begun(String text, int done, int refused, int today) {
        DayLaces x = Check.on(EIGHT);
        Check.due(text, done, () -> Check.work(x, text));
        Check.due("refused by " + text, refused, () -> x.told(10));
        Check.due("today by " + text, today, () -> x.told(1));
    }

    private static void twoHundred() {
        Said.term("200 STEPS at most are begun by one WORK (an again, too, each time it is come to; REFUSED ones, too), "
            + "what would come behind is left out.");
        // 1 and 180, then 1 and 18: 200
        begun("again 60[day;day;day;];again 18[day;];day;", 198, 0, 198);
        begun("again 60[day;day;day;];again 17[day;];day;day;", 198, 0, 198);
        begun("again 60[day;day;day;];again 16[day;];day;day;", 198, 0, 198);
        begun("again 60[day;day;day;];again 15[day;];day;day;", 197, 0, 197);
        // the 200th is an again: what stands in it is left out
        begun("again 60[day;day;day;];again 17[day;];again 9[day;];day;", 197, 0, 197);
        begun("again 60[day;day;day;];again 16[day;];again 9[day;];day;", 197, 0, 197);
        // REFUSED ones, too
        begun("again 60[mend 0;mend 0;mend 0;];again 18[mend 0;];day;", 0, 198, 0);
        begun("again 60[mend 0;mend 0;mend 0;];again 17[mend 0;];day;", 1, 197, 1);
        // an again each time it is come to, with nothing in it, too, and 0 times, too
        begun("again 60[again 0[day;];again 9[];again 0[];];again 18[again 0[];];day;", 0, 0, 0);
        begun("again 60[again 0[day;];again 9[];again 0[];];again 17[again 0[];];day;", 1, 0, 1);
        // amid, in several that are open: 1 and 1, 16 times 12, an again and 5 days
        begun("again 60[again 60[again 10[day;];cut 0;];cut 1;];cut 2;", 166, 15, 165);
        // 1, 9 times 21, an again and 9
        begun("again 10[again 20[mend 0;];];day;", 0, 189, 0);
        // one WORK at a time
        DayLaces x = Check.on(EIGHT);
        for (int i = 1; i <= 3; i++) {
            int n = i;
            Check.due("each WORK anew", 199, () -> Check.work(x, "again 50[day;day;day;day;];"));
            Check.due("today", 199 * n, () -> x.told(1));
        }
    }

    private static void refusedCounted() {
        Said.promise(5, "how many STEPS were done (agains not counted, nor REFUSED ones)");
        Said.promise(9, "10 STEPS REFUSED by the latest WORK (0 ahead of any, behind undo(), restore())");
        DayLaces x = Check.on(EIGHT);
        Check.due("ahead of any", 0, () -> x.told(10));
        Check.due("tie and undo, twice", 4, () -> Check.work(x, "again 2[again 1[tie 0 0;mend 0;];undo 0;];undo 0;"));
        Check.due("mend twice and an undo", 3, () -> x.told(10));
        Check.work(x, "day;");
        Check.due("of the latest alone", 0, () -> x.told(10));
        Check.work(x, "mend 0;mend 1;");
        Check.due("two", 2, () -> x.told(10));
        Check.reads(x, "work", "day;mend", -9, 8);
        Check.due("a text with a FAULT is no WORK", 2, () -> x.told(10));
        x.image();
        Check.due("an IMAGE leaves it", 2, () -> x.told(10));
        x.undo();
        Check.due("behind undo", 0, () -> x.told(10));
        Check.work(x, "mend 0;");
        Check.due("one", 1, () -> x.told(10));
        x.restore();
        Check.due("behind restore", 0, () -> x.told(10));
        Check.work(x, "");
        Check.due("of no STEPS", 0, () -> x.told(10));
    }

    private static void undoing() {
        Said.promise(8, "The latest WORK that was done (of no STEPS, too) is undone: how many are left; -1: there is none.");
        DayLaces x = Check.on(EIGHT);
        Check.due("none", -1, x::undo);
        String[] before = new String[17];
        Check.law(x, "self*10");
        String[] works = {"tie 0 0;", "", "day;cut 1;", "tie 0 0;tie 0 3;mend 7;", "double 2 2;tie 2 4;day;", "again 9[day;];"};
        for (int i = 0; i < 16; i++) {
            before[i] = State.of(x).replaceFirst("(( *[0-9]+){10}) [0-9]+", "$1 0");
            Check.work(x, works[i % 6]);
            int n = i + 1;
            Check.due("works", n, () -> x.count(2));
        }
        Check.reads(x, "work", "day;", -20, -1);
        for (int i = 15; i >= 0; i--) {
            int left = i;
            Check.due("left", left, x::undo);
            Check.due("works left", left, () -> x.count(2));
            Check.due("as ahead of WORK " + (i + 1), State.of(x), before[i]);
        }
        Check.due("none any more", -1, x::undo);
        Check.due("still none", -1, x::undo);
        Check.reads(x, "work", "day", -9, 3);
        Check.due("a FAULT is no WORK", -1, x::undo);
        Check.due("as at first", State.of(x), before[0]);
    }

    private static void imaging() {
        Said.promise(43, "An IMAGE of all that WORK changes, and of WORKS that can be undone: how many there are; "
            + "-1: there are 3.");
        Said.promise(44, "All that is as in the latest IMAGE, which is gone: how many are left; -1: there is none.");
        DayLaces x = Check.on(EIGHT);
        Check.due("none", -1, x::restore);
        Check.law(x, "self*10");
        String first = State.of(x);
        String[] as = new String[3];
        String[] works = {"double 0 0;tie 1 1;tie 0 7;day;", "cut 1;day;", "tie 0 6;undo 0;tie 2 2;tie 2 3;"};
        for (int i = 0; i < 3; i++) {
            Check.work(x, works[i]);
            int n = i + 1;
            Check.due("image", n, x::image);
            as[i] = State.of(x);
        }
        String full = State.of(x);
        Check.due("there are 3", -1, x::image);
        Check.due("nothing is done", State.of(x), full);
        Check.work(x, "again 9[day;];cut 5;");
        Check.due("there are 3 still", -1, x::image);
        for (int i = 2; i >= 0; i--) {
            int left = i;
            Check.work(x, "day;cut 6;mend 0;");
            Check.due("left", left, x::restore);
            Check.due("images", left, () -> x.count(0));
            String[] now = State.of(x).split(" ");
            String[] then = as[i].split(" ");
            then[then.length - 3] = Integer.toString(left);
            Check.due("as in IMAGE " + i, String.join(" ", now), String.join(" ", then));
            Check.due("its WORKS", left + 1, () -> x.count(2));
        }
        String last = State.of(x);
        Check.due("none any more", -1, x::restore);
        Check.due("nothing is done by it", State.of(x), last);
        Check.due("its WORK can be undone", 0, x::undo);
        Check.due("undone all", State.of(x), first);
        Check.due("room again", 1, x::image);
        fullImages();
    }

    /** Three IMAGES with sixteen WORKS each, all unlike, undone to the first. */
    private static void fullImages() {
        DayLaces x = Check.on(EIGHT);
        Check.law(x, "self*10");
        String[][] before = new String[3][17];
        for (int image = 0; image < 3; image++) {
            for (int i = 0; i < 16; i++) {
                before[image][i] = unlike(x);
                Check.work(x, "day;double " + (i + image) % 8 + " " + (i + image) % 8 + ";cut " + i % 8 + ";tie " + (i + image) % 8
                    + " " + (i + 5) % 8 + ";" + (image > i % 3 ? "mend 0;day;" : ""));
            }
            before[image][16] = unlike(x);
            x.image();
            for (int i = 15; i >= image; i--) {
                x.undo();
            }
            Check.due("left of " + image, image, () -> x.count(2));
            for (int i = image; i > 0; i--) {
                x.undo();
            }
        }
        for (int image = 2; image >= 0; image--) {
            int left = image;
            Check.due("restore", left, x::restore);
            for (int i = 16; i > 0; i--) {
                Check.due("of IMAGE " + image + " behind WORK " + i, unlike(x), before[image][i]);
                int n = i - 1;
                Check.due("undo", n, x::undo);
            }
            Check.due("of IMAGE " + image + " at first", unlike(x), before[image][0]);
        }
    }

    /** What State tells, but what was REFUSED and how many IMAGES and WORKS there are. */
    private static String unlike(DayLaces x) {
        String all = State.of(x).replaceFirst("(( *[0-9]+){10}) [0-9]+", "$1");
        return all.replaceFirst("( [0-9]+){3}$", "");
    }
}
