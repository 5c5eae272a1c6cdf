import java.math.BigInteger;

/** The boundary cases that the document tells of what is asked (promises 9 to 42, and the terms behind them). */
final class AskBounds {
    private static final String ONE = "person 9 0 0 0;";
    private static final String THREE = ONE.repeat(3);
    private static final String EIGHT = ONE.repeat(8);
    private static final int LAST = 900;

    private AskBounds() {
    }

    static void run() {
        told();
        person();
        hold();
        would();
        can();
        aheadAndLater();
        catches();
        ways();
        rounds();
        kneelHolds();
        kneelGives();
        kneelFirst();
        rings();
        tiedBy();
        fits();
        look();
        soldier();
        dry();
        share();
        slowest();
        helpersAndBest();
        inDays();
        kin();
        nearestFarthestMiddle();
    }

    private static DayLaces by(String street, String law, String work) {
        DayLaces x = Check.on(street);
        Check.reads(x, "law", law, 1, -1);
        Check.due("work " + work, true, Check.work(x, work) >= 0);
        return x;
    }

    private static void told() {
        Said.promise(9, "0 PERSONS, 1 TODAY, 2 who is TIED (bits), 3 who is TIED doubly (bits), 4 who is CUT (bits), "
            + "5 who is BEHIND (bits), 6 BEHIND of all together, 7 how often any slipped by now, 8 string as told, "
            + "9 lines of the BOOK, 10 STEPS REFUSED by the latest WORK");
        Said.promise(9, "11 how often any was TIED by now.");
        Said.promise(9, "IllegalArgumentException: another what (so below).");
        DayLaces x = Check.on(EIGHT);
        StepBounds.goTo(x, LAST);
        Check.book(x, "0 0;1 0;2 0;3 0;4 0;5 0;6 0;7 0;");
        tolds(x, "none", 8, 900, 0, 0, 0, 255, 7200, 0, 20, 8, 0, 0);
        Check.law(x, "9");
        Check.work(x, "again 2[tie 0 0;double 1 1;tie 2 2;tie 3 3;tie 4 4;tie 5 5;tie 6 6;tie 7 7;];");
        tolds(x, "slipped", 8, 900, 0, 0, 0, 255, 7200, 16, 20, 8, 0, 0);
        Check.law(x, "10");
        Check.work(x, "again 2[double 0 0;double 1 1;tie 2 2;double 3 3;double 4 4;double 5 5;tie 6 6;double 7 7;];");
        tolds(x, "tied", 8, 900, 255, 187, 0, 0, 0, 16, 20, 8, 8, 8);
        Check.work(x, "cut 0;cut 1;cut 2;cut 3;cut 4;cut 5;cut 6;cut 7;mend 6;tie 6 6;");
        tolds(x, "cut", 8, 900, 64, 0, 191, 0, 0, 16, 20, 8, 0, 9);
        x.undo();
        x.undo();
        x.undo();
        tolds(x, "undone", 8, 900, 0, 0, 0, 255, 7200, 0, 20, 8, 0, 0);
        Check.wrong("told 12", () -> x.told(12));
        Check.wrong("told -1", () -> x.told(-1));
    }

    private static void tolds(DayLaces x, String when, int... due) {
        for (int what = 0; what <= 11; what++) {
            int w = what;
            Check.due(when + ": told " + w, due[w], () -> x.told(w));
        }
    }

    private static void person() {
        Said.promise(10, "0 F, 1 H, 2 X, 3 Y, 4 its DAY, 5 BEHIND, 6 0 not TIED, 1 singly, 2 doubly, 7 1 it is CUT, 0 not, "
            + "8 how often it slipped, 9 who tied it latest (NONE: nobody yet; TIED, loose or CUT by now), 10 friends (bits).");
        Said.promise(10, "NoSuchElementException: no such PERSON (so below, ahead of others).");
        DayLaces x = Check.on("person 1 2 3 4;".repeat(8) + "friend 0 1;friend 0 2;friend 3 0;friend 4 0;friend 0 5;"
            + "friend 6 0;friend 0 7;");
        Check.law(x, "self*10");
        Check.work(x, "day;tie 0 0;tie 0 1;double 2 2;cut 3;tie 4 4;cut 4;day;double 5 5;undo 5;");
        persons(x, 0, 1, 2, 3, 4, 1, 1, 0, 0, 0, 0, 254);
        persons(x, 1, 1, 2, 3, 4, 0, 2, 0, 0, 1, -1, 1);
        persons(x, 2, 1, 2, 3, 4, 2, 0, 2, 0, 0, 2, 1);
        persons(x, 3, 1, 2, 3, 4, 2, 0, 0, 1, 0, -1, 1);
        persons(x, 4, 1, 2, 3, 4, 2, 0, 0, 1, 0, 4, 1);
        persons(x, 5, 1, 2, 3, 4, 2, 0, 0, 0, 0, 5, 1);
        persons(x, 7, 1, 2, 3, 4, 0, 2, 0, 0, 0, -1, 1);
        Check.work(x, "tie 6 6;");
        persons(x, 6, 1, 2, 3, 4, 2, 0, 1, 0, 0, 6, 1);
        Check.noPerson("8, ahead of a wrong what", () -> x.person(8, 11));
        Check.noPerson("-1, ahead of a wrong what", () -> x.person(-1, -1));
        Check.wrong("what 11", () -> x.person(7, 11));
        Check.wrong("what -1", () -> x.person(0, -1));
    }

    private static void persons(DayLaces x, int p, int... due) {
        for (int what = 0; what <= 10; what++) {
            int w = what;
            Check.due("person " + p + " " + w, due[w], () -> x.person(p, w));
        }
    }

    private static void hold() {
        Said.promise(11, "HOLD of a lace that a PERSON ties for another one (or itself) now, singly (twice 0), doubly (1), "
            + "whether it could be tied or not.");
        DayLaces x = by(EIGHT, "20+self+double*2+behind*4", "day;tie 0 0;cut 1;");
        Check.due("itself, tied", 21, () -> x.hold(0, 0, 0));
        Check.due("itself, cut", 27, () -> x.hold(1, 1, 1));
        Check.due("for one who is cut", 24, () -> x.hold(0, 1, 0));
        Check.due("by one who is cut", 26, () -> x.hold(1, 2, 1));
        Check.due("by one who is loose", 20, () -> x.hold(7, 0, 0));
        Check.wrong("twice 2", () -> x.hold(0, 0, 2));
        Check.wrong("twice -1", () -> x.hold(0, 0, -1));
        Check.noPerson("other, ahead of twice", () -> x.hold(0, 8, 2));
        Check.noPerson("person, ahead of twice", () -> x.hold(8, 0, 2));
    }

    private static void would() {
        Said.promise(12, "HOLD by the LAW for such fingers, haste (0 to 9 both), behind (0 to 999), double, friend, self "
            + "(0, 1 each), slips (0 to 999), day (0 to 900).");
        String[] words = {"fingers", "haste", "behind", "double", "friend", "self", "slips", "day"};
        int[] most = {9, 9, 999, 1, 1, 1, 999, 900};
        for (int i = 0; i < 8; i++) {
            DayLaces x = new DayLaces();
            Check.reads(x, "law", words[i] + "-" + Math.max(0, most[i] - 50), 1, -1);
            int[] v = new int[8];
            wouldBe(x, "least " + words[i], v, 0);
            v[i] = most[i];
            wouldBe(x, "most " + words[i], v, Math.min(50, most[i]));
            v[i] = most[i] + 1;
            Check.wrong("beyond " + words[i], () -> x.would(v[0], v[1], v[2], v[3], v[4], v[5], v[6], v[7]));
            int[] u = most.clone();
            wouldBe(x, "all at most", u, Math.min(50, most[i]));
            u[i] = -1;
            Check.wrong("below " + words[i], () -> x.would(u[0], u[1], u[2], u[3], u[4], u[5], u[6], u[7]));
        }
    }

    private static void wouldBe(DayLaces x, String which, int[] v, int due) {
        Check.due(which, due, () -> x.would(v[0], v[1], v[2], v[3], v[4], v[5], v[6], v[7]));
    }

    private static void can() {
        Said.promise(13, "Whether tie of a PERSON for another one (or itself) could be done now (it may slip).");
        DayLaces x = by(THREE + ONE, "0", "");
        Check.due("itself, though it slips", true, x.can(0, 0));
        Check.due("another, not tied", false, x.can(0, 1));
        DayLaces y = by(THREE + ONE, "99", "tie 0 0;double 1 1;cut 2;");
        Check.law(y, "0");
        String due = "0001" + "0001" + "0000" + "0001";
        StringBuilder got = new StringBuilder();
        for (int a = 0; a < 4; a++) {
            for (int b = 0; b < 4; b++) {
                got.append(y.can(a, b) ? '1' : '0');
            }
        }
        Check.due("who could", got.toString(), due);
    }

    private static void aheadAndLater() {
        Said.term("Asked, nothing stays changed; DAYS go by as by day (beyond 900, too).");
        Said.promise(14, "In n DAYS (0 to 99), nothing else being done: 0 BEHIND of all together, 1 who is BEHIND (bits), "
            + "2 who is TIED (bits).");
        Said.promise(36, "In which DAY a PERSON is behind n DAYS (0 to 99), nothing else being done.");
        DayLaces x = Check.on(EIGHT);
        StepBounds.goTo(x, LAST);
        Check.law(x, "99");
        Check.work(x, "tie 0 0;double 1 1;cut 2;tie 3 3;cut 3;");
        aheads(x, 0, 900 * 5, 0b11110100, 0b00000011);
        aheads(x, 1, 901 * 4 + 1, 0b11110001, 0b00000010);
        aheads(x, 99, 999 * 4 + 99, 0b11110001, 0b00000010);
        int[][] due = {{0, 900, 900, 0, 900, 0}, {1, 900, 901, 901, 901, 0}, {99, 900, 999, 999, 999, 0}};
        for (int[] d : due) {
            for (int p = 0; p < 5; p++) {
                int q = p;
                Check.due("later " + q + " " + d[0], d[1 + q], () -> x.later(q, d[0]));
            }
        }
        Check.due("today stays", 900, () -> x.told(1));
        Check.wrong("later 100", () -> x.later(0, 100));
        Check.wrong("later -1", () -> x.later(0, -1));
        Check.wrong("ahead 100", () -> x.ahead(100, 0));
        Check.wrong("ahead -1", () -> x.ahead(-1, 0));
        Check.wrong("ahead what 3", () -> x.ahead(0, 3));
        Check.due("without PERSONS", 0, () -> new DayLaces().ahead(99, 0) + new DayLaces().ahead(99, 1));
    }

    private static void aheads(DayLaces x, int n, int together, int who, int tied) {
        Check.due("together in " + n, together, () -> x.ahead(n, 0));
        Check.due("who in " + n, who, () -> x.ahead(n, 1));
        Check.due("tied in " + n, tied, () -> x.ahead(n, 2));
    }

    private static void catches() {
        Said.promise(15, "CATCH.");
        Said.term("CATCH of a PERSON: the least number of DAYS (0 to 99) behind which it is BEHIND by 0, if each DAY, ahead of "
            + "its end, it ties its own lace doubly (if that can be done, and as by double: it may slip, and slips are counted; "
            + "nothing else is done by anybody); looked at ahead of the first, and behind each; NONE.");
        catchOf("99", "", 0);
        catchOf("0", "", 0);
        catchOf("99", "day;tie 0 0;", 0);
        catchOf("99", "day;", 1);
        catchOf("10", "day;", 1);
        catchOf("9", "day;", -1);
        catchOf("9+double", "day;", 1);
        catchOf("10-double", "day;", -1);
        catchOf("self*10", "day;", 1);
        catchOf("10-self", "day;", -1);
        // cut it can't tie, but is in TODAY when the DAY ends
        catchOf("0", "day;cut 0;", 1);
        catchOf("0", "day;cut 0;day;", 0);
        catchOf("99", "cut 0;day;mend 0;day;", 1);
        // TODAY is 1: a tie that first holds in DAY n leads to n, 99 at most
        catchOf("(day+1)/10", "day;", 99);
        catchOf("(day+2)/10", "day;", 98);
        catchOf("day/10", "day;", -1);
        catchOf("slips-87", "day;", 98);
        catchOf("slips-88", "day;", 99);
        catchOf("slips-89", "day;", -1);
        // behind by one more each DAY
        catchOf("behind-88", "day;", 98);
        catchOf("behind-89", "day;", 99);
        catchOf("behind-90", "day;", -1);
        DayLaces x = Check.on(ONE + ONE);
        StepBounds.goTo(x, LAST);
        Check.law(x, "day-890");
        Check.due("at 900", 1, () -> x.catches(0));
        Check.law(x, "day-891");
        Check.due("beyond 900", 2, () -> x.catches(0));
        Check.law(x, "day-988");
        Check.due("at 998", 99, () -> x.catches(0));
        Check.law(x, "day-989");
        Check.due("at 999, too late", -1, () -> x.catches(0));
        Check.due("no slips stay", 0, () -> x.told(7));
    }

    private static void catchOf(String law, String work, int due) {
        DayLaces x = by(ONE + ONE, "99", work);
        Check.law(x, law);
        Check.due("catch by " + law + " behind " + work, due, () -> x.catches(0));
        Check.due("once more", due, () -> x.catches(0));
    }

    private static void ways() {
        Said.promise(16, "The way between where two PERSONS live.");
        DayLaces x = Check.on("person 0 0 0 0;person 0 0 20 20;person 0 0 20 0;person 0 0 20 20;");
        int[][] due = {{0, 40, 20, 40}, {40, 0, 20, 0}, {20, 20, 0, 20}, {40, 0, 20, 0}};
        for (int a = 0; a < 4; a++) {
            for (int b = 0; b < 4; b++) {
                int p = a;
                int q = b;
                Check.due("far " + p + " " + q, due[p][q], () -> x.far(p, q));
            }
        }
    }

    private static void rounds() {
        Said.term("ROUND of a PERSON for told PERSONS (bits): the least way by which it comes, from where it lives, to where all "
            + "of these live, in whatever order (each way X and Y together; to itself it has none; back it need not come).");
        Said.promise(17, "ROUND of a PERSON for told PERSONS (0: none, or all live where it lives). "
            + "IllegalArgumentException: bits of no PERSONS (so below).");
        DayLaces x = Check.on("person 0 0 0 0;person 0 0 20 0;person 0 0 0 20;person 0 0 20 20;person 0 0 0 0;");
        Check.due("none", 0, () -> x.round(0, 0));
        Check.due("itself", 0, () -> x.round(3, 8));
        Check.due("where it lives", 0, () -> x.round(0, 17));
        Check.due("back it need not come", 20, () -> x.round(0, 2));
        Check.due("with itself", 20, () -> x.round(0, 3));
        Check.due("all", 60, () -> x.round(0, 31));
        Check.due("all but itself", 60, () -> x.round(0, 30));
        Check.due("opposite ones", 60, () -> x.round(0, 14));
        Check.due("in whatever order", 40, () -> x.round(1, 12));
        Check.due("through a corner", 40 + 20, () -> x.round(1, 13));
        Check.wrong("bits of no PERSONS", () -> x.round(0, 32));
        Check.wrong("bits of no PERSONS among others", () -> x.round(0, 33));
        Check.wrong("the sign", () -> x.round(0, -1));
        Check.noPerson("ahead of bits", () -> x.round(5, 32));
        DayLaces eight = Check.on(EIGHT);
        Check.due("eight at one place", 0, () -> eight.round(0, 255));
        Check.wrong("a ninth", () -> eight.round(0, 256));
        DayLaces apart = Check.on("person 0 0 0 0;person 0 0 20 20;".repeat(4));
        Check.due("at two places", 40, () -> apart.round(2, 255));
        roundsByAllOrders();
    }

    /** All orders tried out, for places that lie about. */
    private static void roundsByAllOrders() {
        DayLaces x = Check.on("person 0 0 3 17;person 0 0 20 1;person 0 0 9 9;person 0 0 0 4;person 0 0 12 20;person 0 0 7 2;"
            + "person 0 0 16 11;person 0 0 1 10;");
        for (int p = 0; p < 8; p++) {
            for (int bits : new int[] {255, 254, 127, 85, 170, 15, 240, 3, 129}) {
                int q = p;
                Check.due("round " + q + " " + bits, leastOrder(x, q, bits & ~(1 << q)), () -> x.round(q, bits));
            }
        }
    }

    private static int leastOrder(DayLaces x, int from, int left) {
        int least = left == 0 ? 0 : Integer.MAX_VALUE;
        for (int p = 0; p < 8; p++) {
            if ((left & 1 << p) != 0) {
                least = Math.min(least, x.far(from, p) + leastOrder(x, p, left & ~(1 << p)));
            }
        }
        return least;
    }

    private static void kneelHolds() {
        Said.term("KNEEL: all ways to give each PERSON who is not TIED and not CUT one PERSON who ties it singly, or none, by "
            + "whom HOLD, as all is now, is 10 or more (itself, or another one who is TIED now), nobody tying two:");
        Said.promise(18, "KNEEL: 0 how many are given one, 1 DAYS together.");
        Said.promise(19, "Who ties a PERSON by KNEEL; NONE: nobody, or it is TIED or CUT.");
        kneelIs(new DayLaces(), 0, 0);
        kneelIs(by(THREE, "10", ""), 3, 0, 0, 1, 2);
        kneelIs(by(THREE, "9", ""), 0, 0, -1, -1, -1);
        kneelIs(by(THREE, "10-double", ""), 3, 0, 0, 1, 2);
        kneelIs(by(THREE, "9+double", ""), 0, 0, -1, -1, -1);
        kneelIs(by(THREE, "10", "tie 0 0;double 1 1;cut 2;"), 0, 0, -1, -1, -1);
        kneelIs(by(THREE, "10", "day;day;tie 1 1;cut 2;"), 1, 2, 0, -1, -1);
        kneelIs(by(THREE, "10-self+behind", "day;day;day;"), 3, 9, 0, 1, 2);
        kneelIs(by(EIGHT, "99", ""), 8, 0, 0, 1, 2, 3, 4, 5, 6, 7);
        DayLaces late = Check.on(EIGHT);
        StepBounds.goTo(late, LAST);
        Check.law(late, "10");
        kneelIs(late, 8, 7200, 0, 1, 2, 3, 4, 5, 6, 7);
        // each is asked ahead of the other, and by what is now
        DayLaces x = by(THREE, "10", "");
        Check.due("kneel ahead of kneels", 3, () -> x.kneel(0));
        Check.work(x, "day;cut 0;");
        Check.due("kneel now", 2, () -> x.kneel(0));
        Check.work(x, "tie 1 1;");
        Check.due("days now", 1, () -> x.kneel(1));
        Check.work(x, "cut 2;mend 0;");
        Check.due("kneels now", 0, () -> x.kneels(0));
        Check.work(x, "undo 1;");
        Check.due("kneels now, undone", 1, () -> x.kneels(1));
    }

    private static void kneelGives() {
        Said.term("that by which most are given; of as many that by which the DAYS in which these are then (as by tie) together "
            + "are most;");
        // only friends hold: 0 by 6 or 7, 1 by 6 alone, 2 by 7 alone; 6 and 7 are tied
        String street = EIGHT + "friend 0 6;friend 0 7;friend 1 6;friend 2 7;";
        DayLaces x = by(street, "self*10", "tie 6 6;tie 7 7;");
        Check.law(x, "friend*10");
        kneelIs(x, 2, 0, 6, -1, 7, -1, -1, -1, -1, -1);
        // 0 can tie itself as well: then three are given
        DayLaces y = by(street.replaceFirst("person 9", "person 5").replace("person 9", "person 0"), "10", "day;tie 6 6;tie 7 7;");
        Check.law(y, "friend*10+self*fingers*2");
        kneelIs(y, 3, 3, 0, 6, 7, -1, -1, -1, -1, -1);
        // most are given, though the first could have a lesser one
        DayLaces z = by(EIGHT + "friend 0 6;friend 0 7;friend 1 6;", "10", "tie 6 6;tie 7 7;");
        Check.law(z, "friend*10");
        kneelIs(z, 2, 0, 7, 6, -1, -1, -1, -1, -1, -1);
    }

    private static void kneelFirst() {
        Said.term("of alike ways the first (by numbers the least PERSON who ties, none last).");
        // seven loose, one tied: the first has it
        DayLaces x = by(EIGHT, "10", "tie 3 3;");
        Check.law(x, "10-self");
        kneelIs(x, 1, 0, 3, -1, -1, -1, -1, -1, -1, -1);
        DayLaces y = by(EIGHT, "10", "tie 1 1;tie 3 3;tie 6 6;");
        Check.law(y, "10-self");
        kneelIs(y, 3, 0, 1, -1, 3, -1, 6, -1, -1, -1);
        Check.law(y, "10");
        kneelIs(y, 5, 0, 0, -1, 1, -1, 3, 5, -1, 6);
        DayLaces z = by(EIGHT, "10", "tie 0 0;");
        kneelIs(z, 7, 0, -1, 0, 2, 3, 4, 5, 6, 7);
    }

    private static void kneelIs(DayLaces x, int given, int days, int... by) {
        for (int p = 0; p < by.length; p++) {
            int q = p;
            Check.due("who ties " + q, by[q], () -> x.kneels(q));
        }
        Check.due("given", given, () -> x.kneel(0));
        Check.due("days of those given", days, () -> x.kneel(1));
        Check.wrong("kneel 2", () -> x.kneel(2));
        Check.wrong("kneel -1", () -> x.kneel(-1));
        Check.noPerson("nobody", () -> x.kneels(x.told(0)));
    }

    private static void rings() {
        Said.term("RING from a PERSON: from it on to who tied it latest, from that one likewise, and so on, until one is come to "
            + "that was there already, or one whom nobody tied: LONG: how many steps are made; ROUND AGAIN: 1, if one came to was "
            + "there already, else 0 (of one who tied itself latest: 1 both).");
        Said.promise(20, "RING: 0 LONG, 1 ROUND AGAIN.");
        DayLaces x = by(EIGHT, "10", "");
        ringIs(x, 0, 0, 0);
        ringIs(x, 7, 0, 0);
        Check.work(x, "tie 0 0;");
        ringIs(x, 0, 1, 1);
        ringIs(x, 1, 0, 0);
        Check.work(x, "tie 0 1;tie 1 2;tie 2 3;tie 3 4;tie 4 5;tie 5 6;tie 6 7;");
        for (int p = 0; p < 8; p++) {
            ringIs(x, p, p + 1, 1);
        }
        Check.work(x, "undo 0;tie 7 0;");
        for (int p = 0; p < 8; p++) {
            ringIs(x, p, 8, 1);
        }
        // 0 and 1 by one another, 2 by 1, 3 by 2
        DayLaces y = by(EIGHT, "10", "tie 0 0;tie 0 1;undo 0;tie 1 0;tie 1 2;tie 2 3;day;cut 1;");
        ringIs(y, 0, 2, 1);
        ringIs(y, 1, 2, 1);
        ringIs(y, 2, 3, 1);
        ringIs(y, 3, 4, 1);
        ringIs(y, 4, 0, 0);
    }

    private static void ringIs(DayLaces x, int p, int steps, int again) {
        Check.due("long from " + p, steps, () -> x.ring(p, 0));
        Check.due("round again from " + p, again, () -> x.ring(p, 1));
        Check.wrong("ring 2", () -> x.ring(p, 2));
    }

    private static void tiedBy() {
        Said.promise(28, "PERSONS (bits) who were tied latest by a PERSON.");
        DayLaces x = by(EIGHT, "10", "");
        Check.due("nobody yet", 0, () -> x.tied(0) + x.tied(7));
        Check.work(x, "tie 7 7;tie 7 0;tie 7 1;tie 7 2;tie 7 3;tie 7 4;tie 7 5;tie 7 6;");
        Check.due("all", 255, () -> x.tied(7));
        Check.work(x, "undo 0;tie 1 0;cut 2;day;");
        Check.due("all but one", 254, () -> x.tied(7));
        Check.due("one", 1, () -> x.tied(1));
        Check.due("none", 0, () -> x.tied(0));
    }

    private static void fitsAre(DayLaces x, String book, int many, int first) {
        Check.due("book " + book, true, Check.book(x, book) >= 0);
        Check.due("fits by " + book, many, () -> x.fits(0));
        Check.due("the first by " + book, first, () -> x.fits(1));
    }

    private static void fits() {
        Said.term("FITS by BOOK: pairs of PERSONS A, B by which, had A tied B singly now (if that can't be done, or slips, all "
            + "DAYS stay), all lines were right: how many, the first (by A, then B).");
        Said.promise(21, "FITS: 0 how many, 1 the first (10 times A, and B; NONE).");
        fitsAre(new DayLaces(), "", 0, -1);
        fitsAre(Check.on(ONE), "", 1, 0);
        fitsAre(Check.on(EIGHT), "", 64, 0);
        // today 2: 0 tied in 2, 1 loose in 0, 2 cut in 0 or 2, 7 loose in 0
        DayLaces x = by(EIGHT, "10", "day;cut 2;day;tie 0 0;cut 3;");
        fitsAre(x, "", 64, 0);
        fitsAre(x, "1 2;", 2, 1);
        fitsAre(x, "7 2;", 2, 7);
        fitsAre(x, "7 0;", 62, 0);
        fitsAre(x, "0 2;", 64, 0);
        fitsAre(x, "0 1;", 0, -1);
        // cut ones can't be tied
        fitsAre(x, "2 2;", 64, 0);
        fitsAre(x, "3 2;", 0, -1);
        fitsAre(x, "3 0;", 64, 0);
        fitsAre(x, "1 2;7 2;", 0, -1);
        fitsAre(x, "1 2;7 0;", 2, 1);
        fitsAre(x, "1 0;4 0;5 0;6 0;7 0;", 64 - 10, 0);
        fitsAre(x, "1 999;", 0, -1);
        Check.law(x, "9");
        fitsAre(x, "1 2;", 0, -1);
        fitsAre(x, "1 0;", 64, 0);
        // by 77 alone
        Check.law(x, "10-fingers/9*10+self*10");
        fitsAre(x, "7 2;", 1, 77);
        Check.law(x, "9+double");
        fitsAre(x, "7 2;", 0, -1);
        Check.wrong("fits 2", () -> x.fits(2));
    }

    private static void look() {
        Said.term("LOOK: the PERSON in no line by whom, in whatever DAY it was, fewest such pairs are left at the worst (0, if none "
            + "is right), of these the first.");
        Said.promise(22, "LOOK: 0 the PERSON, 1 how many are left at the worst; NONE both: all are in lines, or there are none.");
        lookIs(new DayLaces(), "", -1, -1);
        lookIs(Check.on(ONE), "", 0, 1);
        lookIs(Check.on(ONE), "0 0;", -1, -1);
        lookIs(Check.on(ONE), "0 1;", -1, -1);
        lookIs(Check.on(EIGHT), "", 0, 64);
        lookIs(Check.on(EIGHT), "0 0;1 0;2 0;3 0;4 0;5 0;6 0;7 0;", -1, -1);
        lookIs(Check.on(EIGHT), "0 0;1 0;2 0;3 0;4 0;5 0;6 0;", 7, 64);
        lookIs(Check.on(EIGHT), "0 1;", 1, 0);
        lookIs(Check.on(EIGHT), "1 1;", 0, 0);
        // today 1: 0 tied, it or itself brings each other one into DAY 1; of 64 pairs two each
        DayLaces x = by(EIGHT, "10", "day;tie 0 0;");
        lookIs(x, "", 1, 62);
        lookIs(x, "1 1;", 0, 2);
        lookIs(x, "1 0;", 2, 60);
        // 0 alone is late, and by itself alone comes into TODAY
        lookIs(by(EIGHT, "10", "cut 1;cut 2;cut 3;cut 4;cut 5;cut 6;cut 7;day;"), "", 0, 63);
        lookIs(by(EIGHT, "10", "cut 0;cut 1;cut 2;cut 3;cut 4;cut 5;cut 6;day;"), "", 7, 63);
        // nobody but itself ties anybody, then 4 its friend, too: one pair, and two for 3
        DayLaces y = by(EIGHT, "10", "day;tie 0 0;tie 0 4;");
        Check.law(y, "9+friend+self");
        lookIs(y, "", 1, 63);
        DayLaces z = by(EIGHT + "friend 4 3;", "10", "day;tie 0 0;tie 0 4;");
        Check.law(z, "9+friend+self");
        lookIs(z, "", 3, 62);
    }

    private static void lookIs(DayLaces x, String book, int who, int left) {
        Check.due("book " + book, true, Check.book(x, book) >= 0);
        Check.due("look by '" + book + "'", who, () -> x.look(0));
        Check.due("left by '" + book + "'", left, () -> x.look(1));
        Check.wrong("look 2", () -> x.look(2));
        Check.wrong("look -1", () -> x.look(-1));
    }

    private static void soldier() {
        Said.term("SOLDIER by v, w: each of two steps or stands: both step: each has 0 less w; one steps: it has v, the other one 0; "
            + "both stand: each has w; RESTS: neither would have more by the other thing.");
        Said.promise(23, "SOLDIER by v, w (0 to 99): 0 how many RESTS, 1 the first (10 times what the one does, 0 it steps, 1 it stands, "
            + "and the other one; NONE), 2 what both have by it together (0 without).");
        DayLaces x = new DayLaces();
        for (int v : new int[] {0, 1, 2, 49, 50, 51, 98, 99}) {
            for (int w : new int[] {0, 1, 2, 49, 50, 51, 98, 99}) {
                // both step: a rest by w 0 alone; one steps: by v no less than w; both stand: by w no less than v
                int rests = (w == 0 ? 1 : 0) + (v >= w ? 2 : 0) + (w >= v ? 1 : 0);
                int first = w == 0 ? 0 : v >= w ? 1 : 11;
                int both = w == 0 ? 0 : v >= w ? v : 2 * w;
                Check.due("rests " + v + " " + w, rests, () -> x.soldier(v, w, 0));
                Check.due("first " + v + " " + w, first, () -> x.soldier(v, w, 1));
                Check.due("both have " + v + " " + w, both, () -> x.soldier(v, w, 2));
            }
        }
        int[][] wrong = {{-1, 0, 0}, {100, 0, 0}, {0, -1, 0}, {0, 100, 0}, {0, 0, -1}, {0, 0, 3}};
        for (int[] r : wrong) {
            Check.wrong("soldier " + r[0] + " " + r[1] + " " + r[2], () -> x.soldier(r[0], r[1], r[2]));
        }
    }

    private static void dry() {
        Said.term("DRY of n, k, q: each of n days is wet by q of 16, each by itself: how likely k or more are dry.");
        Said.promise(24, "DRY of n (0 to 12), k (0 to 13), q (0 to 16): above (part 0), below (part 1), in least terms; "
            + "k above n: 0 by 1.");
        DayLaces x = new DayLaces();
        for (int n = 0; n <= 12; n++) {
            for (int k = 0; k <= 13; k++) {
                for (int q = 0; q <= 16; q++) {
                    BigInteger above = waysDry(n, k, q);
                    BigInteger below = BigInteger.valueOf(16).pow(n);
                    BigInteger both = above.gcd(below);
                    int i = n;
                    int j = k;
                    int l = q;
                    Check.due("above " + n + " " + k + " " + q, above.divide(both).longValueExact(), () -> x.dry(i, j, l, 0));
                    Check.due("below " + n + " " + k + " " + q, below.divide(both).longValueExact(), () -> x.dry(i, j, l, 1));
                }
            }
        }
        Check.due("k above n", 0, () -> x.dry(0, 1, 0, 0));
        Check.due("by 1", 1, () -> x.dry(12, 13, 8, 1));
        Check.due("no days", 1, () -> x.dry(0, 0, 16, 0));
    }

    /** A day after the other: of 16 ways of each, q are wet. */
    private static BigInteger waysDry(int n, int k, int q) {
        BigInteger[] ways = new BigInteger[n + 1];
        for (int i = 0; i <= n; i++) {
            ways[i] = i == 0 ? BigInteger.ONE : BigInteger.ZERO;
        }
        for (int day = 0; day < n; day++) {
            for (int i = n; i >= 0; i--) {
                BigInteger wet = ways[i].multiply(BigInteger.valueOf(q));
                ways[i] = i == 0 ? wet : wet.add(ways[i - 1].multiply(BigInteger.valueOf(16 - q)));
            }
        }
        BigInteger sum = BigInteger.ZERO;
        for (int i = k; i <= n; i++) {
            sum = sum.add(ways[i]);
        }
        return sum;
    }

    private static void share() {
        Said.term("STRING of n among told PERSONS (bits) by how much each is BEHIND: levelled: no more than that each, no more than a "
            + "bound, the greatest by which no more than n are given (all, if they are no more).");
        Said.promise(25, "What a PERSON gets of n (0 to 9,999) by STRING among told PERSONS (0, if it is none of them).");
        // behind by 7, 3, 0, 9: 19 in all
        DayLaces x = by(THREE + ONE, "10", "day;day;tie 0 0;day;day;day;day;tie 1 1;day;day;day;tie 2 2;");
        int[] due = {7, 3, 0, 9};
        for (int p = 0; p < 4; p++) {
            int q = p;
            Check.due("all of 19", due[q], () -> x.share(q, 15, 19));
            Check.due("all of 20", due[q], () -> x.share(q, 15, 20));
            Check.due("all of 9999", due[q], () -> x.share(q, 15, 9999));
            Check.due("of 18", Math.min(8, due[q]), () -> x.share(q, 15, 18));
            Check.due("of 17, a bound of 7", Math.min(7, due[q]), () -> x.share(q, 15, 17));
            Check.due("of 16, a bound of 6", Math.min(6, due[q]), () -> x.share(q, 15, 16));
            Check.due("of 3, a bound of 1", Math.min(1, due[q]), () -> x.share(q, 15, 3));
            Check.due("of 2, a bound of 0", 0, () -> x.share(q, 15, 2));
            Check.due("of 0", 0, () -> x.share(q, 15, 0));
            Check.due("it is none of them", 0, () -> x.share(q, 15 & ~(1 << q), 9999));
            Check.due("none told", 0, () -> x.share(q, 0, 9999));
            Check.due("alone", due[q], () -> x.share(q, 1 << q, due[q]));
            Check.due("alone, one less", Math.max(0, due[q] - 1), () -> x.share(q, 1 << q, Math.max(0, due[q] - 1)));
        }
        Check.wrong("n -1", () -> x.share(0, 15, -1));
        Check.wrong("n 10000", () -> x.share(0, 15, 10000));
        Check.wrong("bits 16", () -> x.share(0, 16, 0));
        Check.noPerson("no PERSON, ahead of bits and n", () -> x.share(4, 16, -1));
        DayLaces late = Check.on(EIGHT);
        StepBounds.goTo(late, LAST);
        Check.due("all of 7200", 900, () -> late.share(7, 255, 7200));
        Check.due("of 7199", 899, () -> late.share(7, 255, 7199));
        Check.due("of 7", 0, () -> late.share(7, 255, 7));
        Check.due("of 8", 1, () -> late.share(7, 255, 8));
    }

    private static void slowest() {
        Said.promise(26, "The PERSON that is most BEHIND (what 0), of alike ones the first, by how much (1); "
            + "NONE both: nobody is BEHIND.");
        slowestIs(new DayLaces(), -1, -1);
        slowestIs(Check.on(EIGHT), -1, -1);
        slowestIs(by(EIGHT, "10", "day;"), 0, 1);
        slowestIs(by(THREE, "10", "day;tie 0 0;"), 1, 1);
        slowestIs(by(THREE, "10", "day;tie 0 0;tie 1 1;tie 2 2;"), -1, -1);
        slowestIs(by(THREE, "10", "day;tie 0 0;tie 1 1;day;"), 2, 2);
        DayLaces late = Check.on(EIGHT);
        StepBounds.goTo(late, LAST);
        slowestIs(late, 0, 900);
    }

    private static void slowestIs(DayLaces x, int who, int much) {
        Check.due("slowest", who, () -> x.slowest(0));
        Check.due("by", much, () -> x.slowest(1));
        Check.wrong("slowest 2", () -> x.slowest(2));
        Check.wrong("slowest -1", () -> x.slowest(-1));
    }

    private static void helpersAndBest() {
        Said.promise(27, "PERSONS (bits) who could tie a PERSON singly now so that it holds (itself, too).");
        Said.promise(32, "PERSONS (bits) who could tie their own laces singly now so that they hold.");
        Said.promise(33, "Of those who could tie a PERSON singly now, whether it holds or not, the one by whom HOLD is most, "
            + "of alike ones the first; NONE: nobody could.");
        Said.promise(37, "PERSONS (bits) who are neither TIED nor CUT.");
        DayLaces none = new DayLaces();
        Check.due("without PERSONS", 0, () -> none.steady() + none.loose());
        DayLaces x = by(EIGHT, "10", "tie 1 1;double 6 6;cut 2;");
        whoHelps(x, 7, 0b11000010, 7, 1);
        whoHelps(x, 0, 0b01000011, 0, 0);
        whoHelps(x, 1, 0, 0, -1);
        whoHelps(x, 6, 0, 0, -1);
        whoHelps(x, 2, 0, 0, -1);
        Check.due("steady", 0b10111001, x::steady);
        Check.due("loose", 0b10111001, x::loose);
        Check.law(x, "9+self");
        whoHelps(x, 7, 0b10000000, 7, 7);
        Check.law(x, "10-self");
        whoHelps(x, 7, 0b01000010, -1, 1);
        Check.due("not steady", 0, x::steady);
        Check.law(x, "0");
        whoHelps(x, 7, 0, -1, 1);
        Check.law(x, "9+double");
        whoHelps(x, 7, 0, -1, 1);
        Check.law(x, "10+double");
        whoHelps(x, 7, 0b11000010, 7, 1);
        Check.due("loose by any law", 0b10111001, x::loose);
        DayLaces y = Check.on("person 3 0 0 0;person 4 0 0 0;person 4 0 0 0;person 2 0 0 0;");
        Check.law(y, "10");
        Check.work(y, "tie 0 0;tie 1 1;tie 2 2;");
        Check.law(y, "fingers");
        Check.due("of alike ones the first", 1, () -> y.best(3));
        Check.law(y, "fingers+double*(20-fingers*2)");
        Check.due("singly, not doubly", 1, () -> y.best(3));
        Check.due("0 is not loose", 8, y::loose);
        Check.work(y, "tie 3 3;undo 1;");
        Check.due("1 alone", 2, () -> y.loose() & 6);
    }

    private static void whoHelps(DayLaces x, int p, int bits, int itself, int best) {
        Check.due("helpers of " + p, bits, () -> x.helpers(p));
        Check.due("steady " + p, itself == p, (x.steady() >> p & 1) == 1);
        Check.due("best of " + p, best, () -> x.best(p));
    }

    private static void inDays() {
        Said.promise(29, "PERSONS (bits) who are in a DAY (0 to 999; 0: nobody is).");
        Said.promise(30, "How many unlike DAYS PERSONS are in.");
        Said.promise(34, "By how much the DAY of a PERSON is more than that of another one (below 0, too).");
        Said.promise(39, "PERSONS (bits), but itself, who are in the DAY in which a PERSON is.");
        DayLaces none = new DayLaces();
        Check.due("nobody", 0, () -> none.within(0) + none.days());
        DayLaces x = Check.on(EIGHT);
        Check.due("all in 0", 255, () -> x.within(0));
        Check.due("one DAY", 1, x::days);
        Check.due("mates of 7", 127, () -> x.mates(7));
        Check.work(x, "cut 0;");
        StepBounds.goTo(x, LAST);
        Check.due("in 900", 1, () -> x.within(900));
        Check.due("in 0", 254, () -> x.within(0));
        Check.due("in 999", 0, () -> x.within(999));
        Check.due("two DAYS", 2, x::days);
        Check.due("no mates", 0, () -> x.mates(0));
        Check.due("mates but itself", 252, () -> x.mates(1));
        Check.due("more", 900, () -> x.gap(0, 1));
        Check.due("below 0", -900, () -> x.gap(1, 0));
        Check.due("itself", 0, () -> x.gap(7, 7));
        Check.wrong("within -1", () -> x.within(-1));
        Check.wrong("within 1000", () -> x.within(1000));
        DayLaces y = by(EIGHT, "10", "day;tie 1 1;day;tie 2 2;day;tie 3 3;day;tie 4 4;day;tie 5 5;day;tie 6 6;day;tie 7 7;");
        Check.due("eight DAYS", 8, y::days);
    }

    private static void kin() {
        Said.promise(31, "Who is come to from a PERSON by friends, on and on (bits; itself, too).");
        DayLaces x = Check.on(EIGHT);
        Check.due("itself alone", 128, () -> x.kin(7));
        // on and on by the longest way, with the numbers against it
        DayLaces y = Check.on(EIGHT + "friend 0 7;friend 7 1;friend 1 6;friend 6 2;friend 2 5;friend 5 3;friend 3 4;");
        for (int p = 0; p < 8; p++) {
            int q = p;
            Check.due("all from " + q, 255, () -> y.kin(q));
        }
        DayLaces z = Check.on(EIGHT + "friend 0 7;friend 6 7;friend 2 3;");
        int[] due = {193, 2, 12, 12, 16, 32, 193, 193};
        for (int p = 0; p < 8; p++) {
            int q = p;
            Check.due("kin of " + q, due[q], () -> z.kin(q));
        }
    }

    private static void nearestFarthestMiddle() {
        Said.promise(35, "The other PERSON that lives nearest to a PERSON, of alike ones the first; NONE: there is no other one.");
        Said.promise(38, "The two PERSONS who live farthest apart (what 0: 10 times the lesser, and the other one), of alike ones the "
            + "first, the way between them (1); NONE both: there are not two.");
        Said.promise(40, "The PERSON from where the ways to all others together are least (what 0), of alike ones the first, "
            + "these (1); NONE both: there are no PERSONS.");
        placesAre(new DayLaces(), -1, -1, -1, -1);
        DayLaces one = Check.on("person 0 0 20 20;");
        placesAre(one, -1, -1, 0, 0);
        Check.due("no other one", -1, () -> one.nearest(0));
        DayLaces two = Check.on("person 0 0 20 20;person 0 0 0 0;");
        placesAre(two, 1, 40, 0, 40);
        Check.due("the other one", 1, () -> two.nearest(0));
        Check.due("the other one of 1", 0, () -> two.nearest(1));
        DayLaces same = Check.on(EIGHT);
        placesAre(same, 1, 0, 0, 0);
        Check.due("the first other one", 1, () -> same.nearest(0));
        Check.due("the first", 0, () -> same.nearest(7));
        DayLaces x = Check.on("person 0 0 5 5;person 0 0 5 9;person 0 0 9 5;person 0 0 5 6;person 0 0 5 4;");
        Check.due("of alike ones 3", 3, () -> x.nearest(0));
        Check.due("nearer is better than first", 3, () -> x.nearest(1));
        placesAre(x, 12, 8, 0, 10);
        DayLaces last = Check.on("person 0 0 5 5;person 0 0 5 5;person 0 0 5 5;person 0 0 5 5;person 0 0 5 5;person 0 0 5 5;"
            + "person 0 0 0 0;person 0 0 20 20;");
        placesAre(last, 67, 40, 0, 40);
    }

    private static void placesAre(DayLaces x, int pair, int way, int middle, int ways) {
        Check.due("farthest two", pair, () -> x.farthest(0));
        Check.due("farthest", way, () -> x.farthest(1));
        Check.due("middle", middle, () -> x.middle(0));
        Check.due("ways from there", ways, () -> x.middle(1));
        for (int what : new int[] {-1, 2}) {
            Check.wrong("farthest " + what, () -> x.farthest(what));
            Check.wrong("middle " + what, () -> x.middle(what));
        }
    }
}
