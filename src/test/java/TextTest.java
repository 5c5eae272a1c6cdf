/** Promises 1 to 7: the TAPE, the four texts and their FAULTS. */
public final class TextTest {
    private static final String TWO = "person 9 0 0 0;person 0 0 20 20;";

    private TextTest() {
    }

    public static void main(String[] args) {
        newObject();
        feeding();
        streetTexts();
        streetForgets();
        streetFaults();
        lawTexts();
        lawFaults();
        workFaults();
        workIsFull();
        bookTexts();
        wrongLengths();
        Check.end();
    }

    private static void newObject() {
        DayLaces x = new DayLaces();
        for (int what = 0; what < 12; what++) {
            int w = what;
            Check.due("new told " + w, w == 8 ? 20 : 0, () -> x.told(w));
        }
        Check.due("new fault", -1, x::fault);
        Check.due("new images", 0, () -> x.count(0));
        Check.due("new tape", 0, () -> x.count(1));
        Check.due("new works", 0, () -> x.count(2));
        Check.noPerson("new person", () -> x.person(0, 0));
        Check.due("work without persons", 1, () -> Check.work(x, "day;"));
        Check.due("today", 1, () -> x.told(1));
    }

    private static void feeding() {
        DayLaces x = new DayLaces();
        for (int i = 1; i <= 30; i++) {
            int bytes = 20 * i;
            Check.due("feed " + i, bytes, () -> x.feed(0x20202020, 0x20202020, 0x20202020, 0x20202020, 0x20202020));
        }
        Check.due("feed beyond 600", -1, () -> x.feed(1, 2, 3, 4, 5));
        Check.due("tape stays", 600, () -> x.count(1));
        Check.due("600 blanks", 0, () -> x.street(600));
        Check.due("tape is empty", 0, () -> x.count(1));
        // 73747269 6e673078 is "string0x": the highest byte comes first
        x.feed(0x73747269, 0x6e673078, 0, 0, 0);
        Check.due("first bytes alone", -9, () -> x.street(8));
        Check.due("at x", 7, x::fault);
        x.feed(0x73747269, 0x6e67303b, 0, 0, 0);
        Check.due("rest of the tape is not read", 0, () -> x.street(8));
        Check.due("rest of the tape is gone", 0, () -> x.count(1));
        Check.due("string", 0, () -> x.told(8));
        x.feed(0xff000000, 0, 0, 0, 0);
        Check.due("byte 255", -9, () -> x.street(1));
    }

    private static void streetTexts() {
        DayLaces x = new DayLaces();
        Check.due("street", 3, () -> Check.street(x,
            "  person 9 8 7 6 ; person 007 0 20 0;person0 9 0 20;friend 0 2 ;friend 2 0;string 7;string 99; "));
        Check.due("no fault", -1, x::fault);
        int[][] want = {{9, 8, 7, 6}, {7, 0, 20, 0}, {0, 9, 0, 20}};
        for (int p = 0; p < 3; p++) {
            for (int what = 0; what < 4; what++) {
                int q = p;
                int w = what;
                Check.due("person " + q + " " + w, want[q][w], () -> x.person(q, w));
            }
        }
        Check.due("the last string counts", 99, () -> x.told(8));
        Check.due("friends of 0", 4, () -> x.person(0, 10));
        Check.due("friends of 1", 0, () -> x.person(1, 10));
        Check.due("friends of 2", 1, () -> x.person(2, 10));
        Check.due("empty street", 0, () -> x.street(0));
        Check.due("string without", 20, () -> x.told(8));
        Check.due("8 persons", 8, () -> Check.street(x, "person 1 1 1 1;".repeat(8)));
        Check.due("60 clauses", 0, () -> Check.street(x, "string5;".repeat(60)));
        Check.due("61 clauses", -7, () -> Check.street(x, "string5;".repeat(60) + " string5;"));
        Check.due("at the 61st word", 481, x::fault);
        Check.due("61st of no kind", -9, () -> Check.street(x, "string5;".repeat(60) + "strin5;"));
        Check.due("blanks behind 60", 0, () -> Check.street(x, "string5;".repeat(60) + "  "));
    }

    private static void streetForgets() {
        DayLaces x = Check.on(TWO);
        Check.law(x, "99");
        Check.book(x, "0 5;");
        Check.work(x, "day;tie 0 0;tie 0 1;mend 0;");
        x.image();
        Check.due("faulty street", -9, () -> Check.street(x, "person"));
        Check.due("all stays: today", 1, () -> x.told(1));
        Check.due("all stays: tied", 3, () -> x.told(2));
        Check.due("all stays: lines", 1, () -> x.told(9));
        Check.due("all stays: refused", 1, () -> x.told(10));
        Check.due("all stays: law", 99, () -> x.hold(1, 1, 0));
        Check.due("all stays: images", 1, () -> x.count(0));
        Check.due("all stays: works", 1, () -> x.count(2));
        Check.due("a street with friends", 2, () -> Check.street(x, TWO + "friend 0 1;"));
        Check.work(x, "tie 1 1;cut 0;day;");
        Check.due("street again", 2, () -> Check.street(x, TWO));
        Check.due("no friends any more", 0, () -> x.person(0, 10) + x.person(1, 10));
        Check.due("nobody slipped", 0, () -> x.person(1, 8));
        int[] zero = {1, 2, 3, 4, 5, 6, 7, 9, 10, 11};
        for (int what : zero) {
            Check.due("behind a new street " + what, 0, () -> x.told(what));
        }
        Check.due("no law", 0, () -> x.hold(1, 1, 0));
        Check.due("nobody tied it", -1, () -> x.person(1, 9));
        Check.due("no images", 0, () -> x.count(0));
        Check.due("nothing to undo", -1, x::undo);
        Check.due("nothing to restore", -1, x::restore);
        Check.due("no lines", 4, () -> x.fits(0));
    }

    private static void streetFaults() {
        DayLaces x = new DayLaces();
        Check.reads(x, "street", "person 10 0 0 0;", -8, 7);
        Check.reads(x, "street", "person 0 10 0 0;", -8, 9);
        Check.reads(x, "street", "person 0 0 21 0;", -8, 11);
        Check.reads(x, "street", "person 0 0 0 21;", -8, 13);
        Check.reads(x, "street", "person 0 0 0 99999999999999999999;", -8, 13);
        Check.reads(x, "street", "person 0 0 0 4294967296;", -8, 13);
        Check.reads(x, "street", "person 0 0 0;", -9, 12);
        Check.reads(x, "street", "person 0 0 0 0 0;", -9, 15);
        Check.reads(x, "street", "person 0 0 0 0", -9, 14);
        Check.reads(x, "street", "person 0 0 0 0  ", -9, 16);
        Check.reads(x, "street", "person  x 0 0 0;", -9, 8);
        Check.reads(x, "street", "persons 0 0 0 0;", -9, 0);
        Check.reads(x, "street", "  Person 0 0 0 0;", -9, 2);
        Check.reads(x, "street", "personz 0 0 0 0;", -9, 0);
        Check.reads(x, "street", "zperson 0 0 0 0;", -9, 0);
        Check.reads(x, "street", "person/0 0 0 0;", -9, 6);
        Check.reads(x, "street", "person 0 0 0 0:", -9, 14);
        Check.reads(x, "street", ";", -9, 0);
        Check.reads(x, "street", "5;", -9, 0);
        Check.reads(x, "street", "string 100;", -8, 7);
        Check.reads(x, "street", "string -1;", -9, 7);
        Check.reads(x, "street", "friend 0 1;", -8, 7);
        Check.reads(x, "street", TWO + "friend 0 2;", -8, 41);
        Check.reads(x, "street", TWO + "friend 2 0;", -8, 39);
        Check.reads(x, "street", TWO + "friend 1 01;", -8, 41);
        Check.reads(x, "street", TWO + "friend 1;", -9, 40);
        Check.reads(x, "street", "person 0 0 0 0;friend 0 1;person 0 0 0 0;", -8, 24);
        Check.reads(x, "street", "person 0 0 0 0;".repeat(8) + " person 0 0 0 0;", -7, 121);
        Check.due("still none", 0, () -> x.told(0));
    }

    private static void lawTexts() {
        DayLaces x = new DayLaces();
        String[][] laws = {{"fingers", "9"}, {"haste", "7"}, {"behind", "30"}, {"double", "1"}, {"friend", "0"},
            {"self", "1"}, {"slips", "12"}, {"day/10", "80"}, {"1+2*3", "7"}, {"(1+2)*3", "9"}, {"20-5-3", "12"},
            {"80/4/5", "4"}, {"17%5*2", "4"}, {"0-7/2+10", "7"}, {"(0-7)/2+10", "7"}, {"(0-7)%4+10", "7"},
            {"7%(0-4)", "3"}, {"5/0+3", "3"}, {"5%0+4", "4"}, {"0-1", "0"}, {"999", "99"}, {"99", "99"}, {"100", "99"},
            {"least[3,8]", "3"}, {"most [ 3 , 8 ]", "8"}, {"least[most[1,5],least[9,4]]", "4"}, {" 12 ", "12"},
            {"999*999*999*999", "0"}, {"(999*999*999*999+5)%89", "0"}, {"((((((5))))))", "5"},
            {"fingers*2+haste", "25"}, {"000000000000000000000042", "42"}, {"1-(2-3)", "2"},
            // 2 to the 31st wraps to the least number; less 1 it is the greatest
            {"512*512*512*16-1", "99"}, {"512*512*512*16/(0-1)", "0"}, {"512*512*512*16%(0-1)", "0"}};
        for (String[] l : laws) {
            Check.due("law " + l[0], 1, () -> Check.law(x, l[0]));
            Check.due("would by " + l[0], Integer.parseInt(l[1]), () -> x.would(9, 7, 30, 1, 0, 1, 12, 800));
        }
        Check.due("faulty law", -9, () -> Check.law(x, "5+"));
        Check.due("the law stays", 99, () -> {
            Check.law(x, "99");
            Check.law(x, "1)");
            return x.would(0, 0, 0, 0, 0, 0, 0, 0);
        });
        Check.due("150 bytes", 1, () -> Check.law(x, "1" + "+0".repeat(74) + " "));
    }

    private static void lawFaults() {
        DayLaces x = new DayLaces();
        Check.reads(x, "law", "", -9, 0);
        Check.reads(x, "law", "   ", -9, 3);
        Check.reads(x, "law", "1000", -8, 0);
        Check.reads(x, "law", "1+ 1000", -8, 3);
        Check.reads(x, "law", "finger", -9, 0);
        Check.reads(x, "law", "1 2", -9, 2);
        Check.reads(x, "law", "1+", -9, 2);
        Check.reads(x, "law", "-1", -9, 0);
        Check.reads(x, "law", "(1", -9, 2);
        Check.reads(x, "law", "1)", -9, 1);
        Check.reads(x, "law", "least 1", -9, 6);
        Check.reads(x, "law", "least[1]", -9, 7);
        Check.reads(x, "law", "least[1;2]", -9, 7);
        Check.reads(x, "law", "least[1,2)", -9, 9);
        Check.reads(x, "law", "most[1,2,3]", -9, 8);
        Check.reads(x, "law", "1;", -9, 1);
        Check.reads(x, "law", "(((((((1)))))))", -7, 6);
        Check.reads(x, "law", "((((((least[1,2]))))))", -7, 6);
        Check.reads(x, "law", "((((((most x))))))", -7, 6);
        Check.reads(x, "law", "least[1,most[2,least[3,most[4,least[5,(6+ (7))]]]]]", -7, 42);
        Check.reads(x, "law", "least[((((((1))))),2]", -7, 11);
        Check.reads(x, "law", "least[(((((1))))),2]+most[(((((1))))),2]", 1, -1);
    }

    private static void workFaults() {
        DayLaces x = Check.on(TWO);
        Check.reads(x, "work", "tie 2 0;", -8, 4);
        Check.reads(x, "work", "tie 0 2;", -8, 6);
        Check.reads(x, "work", "double 2 0;", -8, 7);
        Check.reads(x, "work", "cut 2;", -8, 4);
        Check.reads(x, "work", "mend 2;", -8, 5);
        Check.reads(x, "work", "undo 2;", -8, 5);
        Check.reads(x, "work", "again 61[];", -8, 6);
        Check.reads(x, "work", "again [];", -9, 6);
        Check.reads(x, "work", "again 1 day;", -9, 8);
        Check.reads(x, "work", "again 1 [day];", -9, 12);
        Check.reads(x, "work", "again 1 [day;", -9, 13);
        Check.reads(x, "work", "again 1 [day;]", -9, 14);
        Check.reads(x, "work", "day;];", -9, 4);
        Check.reads(x, "work", "day 0;", -9, 4);
        Check.reads(x, "work", "day", -9, 3);
        Check.reads(x, "work", "days;", -9, 0);
        Check.reads(x, "work", "tie 0;", -9, 5);
        Check.reads(x, "work", "cut 0 0;", -9, 6);
        Check.reads(x, "work", ";", -9, 0);
        Check.reads(x, "work", "day;day;tie 0 0;double 0 7;", -8, 25);
        Check.reads(x, "work", "again1[".repeat(6) + " again1[];", -7, 43);
        Check.reads(x, "work", "again1[".repeat(6) + "agai", -9, 42);
        Check.due("none is done", 0, () -> x.told(1));
        Check.due("none is kept", 0, () -> x.count(2));
        Check.due("150 bytes of days", 37, () -> Check.work(x, "day;".repeat(37) + "  "));
        Check.due("a day too long", -9, () -> Check.work(x, "day;".repeat(37) + "da"));
        Check.due("at its word", 148, x::fault);
        Check.due("six open", 1, () -> Check.work(x, "again1[".repeat(6) + "day;" + "];".repeat(6)));
        Check.due("no fault any more", -1, x::fault);
    }

    private static void workIsFull() {
        DayLaces x = Check.on(TWO);
        for (int i = 0; i < 16; i++) {
            Check.due("work " + i, 0, () -> x.work(0));
        }
        Check.work(x, "bad");
        Check.due("a 17th has no fault", -1, x::fault);
        Check.due("a 17th", -20, () -> Check.work(x, "day;"));
        Check.due("the tape is empty", 0, () -> x.count(1));
        Check.due("nothing is done", 0, () -> x.told(1));
        Check.due("faulty book", -9, () -> Check.book(x, "0"));
        Check.due("its place", 1, x::fault);
        Check.wrong("a wrong length is told ahead", () -> x.work(1));
        Check.due("the place stays by it", 1, x::fault);
        Check.due("one more", -20, () -> x.work(0));
        Check.due("no place any more", -1, x::fault);
        Check.due("undone", 15, x::undo);
        Check.due("room again", 1, () -> Check.work(x, "day;"));
        Check.due("full again", -20, () -> x.work(0));
    }

    private static void bookTexts() {
        DayLaces x = Check.on(TWO);
        Check.reads(x, "book", " 1 999 ;0 0; ", 2, -1);
        Check.due("lines", 2, () -> x.told(9));
        Check.reads(x, "book", "2 0;", -8, 0);
        Check.reads(x, "book", "0 1000;", -8, 2);
        Check.reads(x, "book", "0 1;00 1;", -8, 4);
        Check.reads(x, "book", "0 1;1 2; 1 x;", -8, 9);
        Check.reads(x, "book", "0 1", -9, 3);
        Check.reads(x, "book", "0;", -9, 1);
        Check.reads(x, "book", "0 1 2;", -9, 4);
        Check.reads(x, "book", "x 1;", -9, 0);
        Check.reads(x, "book", ";", -9, 0);
        Check.due("lines stay", 2, () -> x.told(9));
        Check.reads(x, "book", "0 5;", 1, -1);
        Check.due("new lines", 1, () -> x.told(9));
        Check.reads(x, "book", "", 0, -1);
        Check.due("no lines", 0, () -> x.told(9));
        Check.reads(new DayLaces(), "book", "0 0;", -8, 0);
    }

    private static void wrongLengths() {
        DayLaces x = new DayLaces();
        Check.feed(x, " ".repeat(160));
        Check.wrong("street -1", () -> x.street(-1));
        Check.wrong("street 161", () -> x.street(161));
        Check.wrong("law -1", () -> x.law(-1));
        Check.wrong("law 151", () -> x.law(151));
        Check.wrong("work -1", () -> x.work(-1));
        Check.wrong("work 151", () -> x.work(151));
        Check.wrong("book -1", () -> x.book(-1));
        Check.wrong("book 61", () -> x.book(61));
        Check.due("the tape stays", 160, () -> x.count(1));
        Check.due("counted", 8, () -> x.status(1));
        Check.due("book 60", 0, () -> x.book(60));
        Check.wrong("law beyond the tape", () -> x.law(1));
        Check.feed(x, " ".repeat(160));
        Check.due("work 150", 0, () -> x.work(150));
        Check.feed(x, " ".repeat(160));
        Check.due("law 150 blanks", -9, () -> x.law(150));
        Check.due("at the length", 150, x::fault);
    }
}
