/** The boundary cases that the document tells of the TAPE and the four texts (promises 1 to 7, and the terms). */
final class TextBounds {
    private static final String ONE = "person 9 0 0 0;";
    private static final String THREE = ONE.repeat(3);
    private static final String FULL = "person 0 0 0 0;".repeat(8);
    /** An open thing of each kind that a LAW knows, with what closes it. */
    private static final String[][] OPEN = {{"(", ")"}, {"least[", ",1]"}, {"most[1,", "]"}};

    private TextBounds() {
    }

    static void run() {
        newObject();
        tape();
        streetLength();
        clauses();
        persons();
        placesAndFingers();
        friends();
        string();
        lawLength();
        lawNumbers();
        workLength();
        workPersons();
        againTimes();
        bookLength();
        bookLines();
        numbers();
        words();
        blanks();
        firstFault();
        textEndsTooEarly();
        cantStand();
        openAtOneTime();
        leastOfOne();
        streetAnew();
        lengths();
        firstBytes();
        fullOfWorks();
        latestFault();
    }

    private static String blanks(int many) {
        return " ".repeat(many);
    }

    private static void newObject() {
        Said.promise(1, "A STREET without CLAUSES.");
        DayLaces x = new DayLaces();
        for (int what = 0; what <= 11; what++) {
            int w = what;
            Check.due("new: told " + w, w == 8 ? 20 : 0, () -> x.told(w));
        }
        for (int what = 0; what <= 2; what++) {
            int w = what;
            Check.due("new: count " + w, 0, () -> x.count(w));
        }
        Check.due("new: fault", -1, x::fault);
        Check.noPerson("new: no person 0", () -> x.person(0, 0));
    }

    private static void tape() {
        Said.promise(2, "Twenty bytes come on the TAPE, of each number the highest first: how many there are; "
            + "NONE, doing nothing, if there would be more than 600.");
        DayLaces x = new DayLaces();
        String text = "string 7" + blanks(580) + ";string 11;";
        for (int from = 0; from < 600; from += 20) {
            int f = from;
            Check.due("feed to " + (f + 20), f + 20, () -> x.feed(Check.four(text, f), Check.four(text, f + 4),
                Check.four(text, f + 8), Check.four(text, f + 12), Check.four(text, f + 16)));
        }
        Check.due("feed beyond 600", -1, () -> x.feed(1, 2, 3, 4, 5));
        Check.due("once more", -1, () -> x.feed(-1, -1, -1, -1, -1));
        Check.due("600 stay", 600, () -> x.count(1));
        Check.due("nothing was done to them", 0, () -> x.street(599));
        Check.due("the last clause", 11, () -> x.told(8));
        Check.due("from 0 on again", 20, () -> x.feed(0, 0, 0, 0, 0));
        // each of the four bytes of each of the five numbers in its place; the sixth number's bytes are not read
        DayLaces y = new DayLaces();
        y.feed(0x70657273, 0x6f6e2031, 0x20322033, 0x20342020, 0x2020203b);
        Check.due("highest first", 1, () -> y.street(20));
        Check.due("person", 1234, () -> y.person(0, 0) * 1000 + y.person(0, 1) * 100 + y.person(0, 2) * 10 + y.person(0, 3));
        y.feed(0x80ff7f00, 0, 0, 0, 0);
        Check.due("a highest byte with its sign", -9, () -> y.street(4));
        Check.due("can't stand", 0, y::fault);
    }

    private static void streetLength() {
        Said.term("A STREET is a text of up to 600 bytes");
        DayLaces x = new DayLaces();
        Check.reads(x, "street", "string 5" + blanks(591) + ";", 0, -1);
        Check.due("the 600th byte was read", 5, () -> x.told(8));
        Check.reads(x, "street", "string 6;" + blanks(590) + "x", -9, 599);
        Check.reads(x, "street", "string 6" + blanks(592), -9, 600);
        Check.due("all stays", 5, () -> x.told(8));
        Check.reads(x, "street", blanks(600), 0, -1);
        Check.due("20 without", 20, () -> x.told(8));
        Check.reads(x, "street", "", 0, -1);
    }

    private static void clauses() {
        Said.term("{ CLAUSE \";\" }, at most 60.");
        Said.term("3 a CLAUSE or PERSON too many (at its word)");
        DayLaces x = new DayLaces();
        String sixty = FULL + "friend 0 1;".repeat(20) + "string 8;".repeat(16) + "string 9;".repeat(16);
        Check.reads(x, "street", sixty.replace("person ", "person").replace("string ", "string"), 8, -1);
        Check.due("the 60th counts", 9, () -> x.told(8));
        String packed = "string1;".repeat(60);
        Check.reads(x, "street", packed, 0, -1);
        Check.reads(x, "street", packed + "string1;", -7, 480);
        Check.reads(x, "street", packed + "   friend 0 1;", -7, 483);
        Check.reads(x, "street", packed + " person 0 0 0 0;", -7, 481);
        Check.reads(x, "street", packed + " person", -7, 481);
        Check.reads(x, "street", "string1;".repeat(59) + ONE, 1, -1);
        Check.reads(x, "street", "string1;".repeat(59) + ONE + ONE, -7, 487);
        Check.due("all stays", 1, () -> x.told(0));
    }

    private static void persons() {
        Said.term("(PERSONS, numbered from 0 on, 8 at most");
        DayLaces x = new DayLaces();
        StringBuilder eight = new StringBuilder();
        for (int p = 0; p < 8; p++) {
            eight.append("person ").append(p).append(" 9 20 ").append(p).append(';');
        }
        Check.reads(x, "street", eight.toString(), 8, -1);
        for (int p = 0; p < 8; p++) {
            int q = p;
            Check.due("person " + q, q, () -> x.person(q, 0));
        }
        Check.noPerson("person 8", () -> x.person(8, 0));
        Check.noPerson("person -1", () -> x.person(-1, 0));
        Check.reads(x, "street", FULL + " string 1;  person 0 0 0 0;", -7, 132);
        Check.reads(x, "street", FULL + "person 99", -7, 120);
        Check.reads(x, "street", FULL.repeat(2), -7, 120);
        Check.due("all stays", 7, () -> x.person(7, 0));
    }

    private static void placesAndFingers() {
        Said.term("FINGERS F, 0 to 9, HASTE H, 0 to 9, lives at X, Y, 0 to 20 each)");
        Said.term("2 a number that is none such");
        DayLaces x = new DayLaces();
        int[] most = {9, 9, 20, 20};
        int[] place = {7, 9, 11, 13};
        Check.reads(x, "street", "person 0 0 0 0;person 9 9 20 20;", 2, -1);
        for (int i = 0; i < 4; i++) {
            int w = i;
            Check.due("least " + w, 0, () -> x.person(0, w));
            Check.due("most " + w, most[w], () -> x.person(1, w));
            String[] f = {"0", "0", "0", "0"};
            f[i] = Integer.toString(most[i] + 1);
            Check.reads(x, "street", "person " + String.join(" ", f) + ";", -8, place[i]);
            f[i] = "-1";
            Check.reads(x, "street", "person " + String.join(" ", f) + ";", -9, place[i]);
            f[i] = "100";
            Check.reads(x, "street", "person " + String.join(" ", f) + ";", -8, place[i]);
        }
        Check.due("all stays", 2, () -> x.told(0));
    }

    private static void friends() {
        Said.term("(PERSONS A and B, both told ahead, B not A, are friends; told once more, either way round, it is as once)");
        Said.term("(B of friend as A; an A twice in a BOOK)");
        DayLaces x = new DayLaces();
        Check.reads(x, "street", "friend 0 1;" + FULL, -8, 7);
        Check.reads(x, "street", ONE + "friend 0 1;" + ONE, -8, 24);
        Check.reads(x, "street", ONE + "friend 1 0;" + ONE, -8, 22);
        Check.reads(x, "street", FULL + "friend 7 8;", -8, 129);
        Check.reads(x, "street", FULL + "friend 8 7;", -8, 127);
        Check.reads(x, "street", FULL + "friend 7 7;", -8, 129);
        Check.reads(x, "street", FULL + "friend 0 000;", -8, 129);
        Check.reads(x, "street", FULL + "friend 9 9;", -8, 127);
        Check.due("none is read", 0, () -> x.told(0));
        Check.reads(x, "street", FULL + "friend 7 0;friend 7 0;friend 0 7;friend 0 6;", 8, -1);
        int[] due = {192, 0, 0, 0, 0, 0, 1, 1};
        for (int p = 0; p < 8; p++) {
            int q = p;
            Check.due("friends of " + q, due[q], () -> x.person(q, 10));
        }
    }

    private static void string() {
        Said.term("\"string\" N (0 to 99; 20 without; the last counts)");
        Said.promise(9, "8 string as told");
        DayLaces x = new DayLaces();
        Check.due("20 without", 20, () -> x.told(8));
        Check.reads(x, "street", "string 0;", 0, -1);
        Check.due("0", 0, () -> x.told(8));
        Check.reads(x, "street", "string 99;", 0, -1);
        Check.due("99", 99, () -> x.told(8));
        Check.reads(x, "street", "string 100;", -8, 7);
        Check.reads(x, "street", "string 0;string 100;", -8, 16);
        Check.due("99 stays", 99, () -> x.told(8));
        Check.reads(x, "street", "string 3;string 99;string 4;", 0, -1);
        Check.due("the last", 4, () -> x.told(8));
        Check.reads(x, "street", "string 0;person 0 0 0 0;person 0 0 0 0;friend 0 1;string 0;string 1;", 2, -1);
        Check.due("behind 0, too", 1, () -> x.told(8));
        Check.reads(x, "street", ONE, 1, -1);
        Check.due("20 without, again", 20, () -> x.told(8));
    }

    private static void lawLength() {
        Said.term("A LAW is a text of up to 150 bytes: E, at the end nothing more; "
            + "without: fingers * 5 + double * 20 - haste * 2 - behind.");
        DayLaces x = new DayLaces();
        Check.due("without", 9 * 5 + 20 - 3 * 2 - 1, () -> x.would(9, 3, 1, 1, 1, 1, 5, 7));
        Check.due("without, least", 0, () -> x.would(0, 9, 999, 0, 0, 0, 0, 0));
        Check.due("without, most", 65, () -> x.would(9, 0, 0, 1, 0, 0, 0, 0));
        Check.reads(x, "law", "1" + blanks(147) + "+7", 1, -1);
        Check.due("the 150th byte was read", 8, () -> x.would(0, 0, 0, 0, 0, 0, 0, 0));
        Check.reads(x, "law", "1" + blanks(148) + "+", -9, 150);
        Check.reads(x, "law", "+1".repeat(74).substring(1) + " ;", -9, 148);
        Check.reads(x, "law", "3;", -9, 1);
        Check.reads(x, "law", "3 4", -9, 2);
        Check.reads(x, "law", "3 day", -9, 2);
        Check.reads(x, "law", "3]", -9, 1);
        Check.due("the law stays", 8, () -> x.would(0, 0, 0, 0, 0, 0, 0, 0));
        Check.reads(x, "law", "5+".repeat(74) + "5 ", 1, -1);
        Check.due("75 times 5", 99, () -> x.would(0, 0, 0, 0, 0, 0, 0, 0));
        Check.reads(x, "law", "1+".repeat(74) + "0 ", 1, -1);
        Check.due("74 times 1", 74, () -> x.would(0, 0, 0, 0, 0, 0, 0, 0));
        Check.reads(x, "law", "1-".repeat(74) + "1 ", 1, -1);
        Check.due("from the left, 0 at least", 0, () -> x.would(0, 0, 0, 0, 0, 0, 0, 0));
    }

    private static void lawNumbers() {
        Said.term("U: N (0 to 999)");
        DayLaces x = new DayLaces();
        Check.reads(x, "law", "999-998", 1, -1);
        Check.due("999", 1, () -> x.would(0, 0, 0, 0, 0, 0, 0, 0));
        Check.reads(x, "law", "0", 1, -1);
        Check.due("0", 0, () -> x.would(9, 0, 0, 1, 0, 0, 0, 0));
        Check.reads(x, "law", "1000", -8, 0);
        Check.reads(x, "law", "5+ 1000", -8, 3);
        Check.reads(x, "law", "5* 4294967296", -8, 3);
    }

    private static void workLength() {
        Said.term("WORK is a text of up to 150 bytes: { STEP \";\" }.");
        DayLaces x = Check.on(ONE);
        Check.reads(x, "work", "", 0, -1);
        Check.reads(x, "work", blanks(150), 0, -1);
        Check.reads(x, "work", "day" + blanks(146) + ";", 1, -1);
        Check.reads(x, "work", "day" + blanks(147), -9, 150);
        Check.reads(x, "work", "day;".repeat(37) + " d", -9, 149);
        Check.due("none is", 1, () -> x.told(1));
        Check.reads(x, "work", "  " + "day;".repeat(37), 37, -1);
        Check.due("all are", 38, () -> x.told(1));
    }

    private static void workPersons() {
        Said.term("STEP (A, B: PERSONS told)");
        DayLaces none = new DayLaces();
        DayLaces two = Check.on(ONE + ONE);
        DayLaces eight = Check.on(FULL);
        String[] one = {"cut ", "mend ", "undo "};
        for (String word : one) {
            Check.reads(none, "work", word + "0;", -8, word.length());
            Check.reads(two, "work", word + "2;", -8, word.length());
            Check.reads(eight, "work", word + "8;", -8, word.length());
            Check.due(word + "7 is read", true, Check.work(eight, word + "7;") >= 0);
        }
        for (String word : new String[] {"tie ", "double "}) {
            Check.reads(none, "work", word + "0 0;", -8, word.length());
            Check.reads(two, "work", word + "2 0;", -8, word.length());
            Check.reads(two, "work", word + "0 2;", -8, word.length() + 2);
            Check.reads(two, "work", word + "2 2;", -8, word.length());
            Check.reads(eight, "work", word + "8 0;", -8, word.length());
            Check.reads(eight, "work", word + "0 8;", -8, word.length() + 2);
            Check.due(word + "7 7 is read", true, Check.work(eight, word + "7 7;") >= 0);
        }
        Check.due("none was read", 0, () -> none.count(2) + two.count(2));
    }

    private static void againTimes() {
        Said.term("or \"again\" N \"[\" { STEP \";\" } \"]\" (N 0 to 60).");
        DayLaces x = new DayLaces();
        Check.reads(x, "work", "again 0 [day;];", 0, -1);
        Check.due("not once", 0, () -> x.told(1));
        Check.reads(x, "work", "again 1 [day;];", 1, -1);
        Check.reads(x, "work", "again 60 [day;];", 60, -1);
        Check.due("61 in all", 61, () -> x.told(1));
        Check.reads(x, "work", "again 61 [day;];", -8, 6);
        Check.reads(x, "work", "again 60 [];", 0, -1);
        Check.reads(x, "work", "day;again 2 [again 61 [];];", -8, 19);
    }

    private static void bookLength() {
        Said.term("A BOOK is a text of up to 60 bytes: { A D \";\" }, no A twice");
        DayLaces x = Check.on(FULL);
        Check.reads(x, "book", "", 0, -1);
        Check.reads(x, "book", blanks(60), 0, -1);
        Check.reads(x, "book", "0 7" + blanks(56) + ";", 1, -1);
        Check.reads(x, "book", "0 7" + blanks(57), -9, 60);
        Check.reads(x, "book", "0 999;1 999;2 999;3 999;4 999;5 999;6 999;7 999;", 8, -1);
        Check.reads(x, "book", "0 999;1 999;2 999;3 999;4 999;5 999;6 999;7 999; 7 999;", -8, 49);
        Check.reads(x, "book", "3 1;3 1;", -8, 4);
        Check.reads(x, "book", "3 1;4 1;03 2;", -8, 8);
        Check.due("lines stay", 8, () -> x.told(9));
        Check.reads(x, "book", "0 0;1 0;2 0;3 0;4 0;5 0;6 0;7 0;8 0;", -8, 32);
    }

    private static void bookLines() {
        Said.term("PERSON A, one told, is in DAY D (0 to 999).");
        DayLaces x = Check.on(ONE + ONE);
        Check.reads(x, "book", "1 0;", 1, -1);
        Check.reads(x, "book", "1 999;", 1, -1);
        Check.reads(x, "book", "1 1000;", -8, 2);
        Check.reads(x, "book", "2 0;", -8, 0);
        Check.reads(x, "book", "1 4294967295;", -8, 2);
        Check.due("lines stay", 1, () -> x.told(9));
        Check.reads(new DayLaces(), "book", "0 0;", -8, 0);
    }

    private static void numbers() {
        Said.term("Numbers: digits, as many as stand there");
        DayLaces x = new DayLaces();
        Check.reads(x, "street", "person 0000000009 00 0000020 1;", 1, -1);
        Check.due("9", 9, () -> x.person(0, 0));
        Check.due("20", 20, () -> x.person(0, 2));
        // 2 to the 32nd, and 1 more; 2 to the 31st; 2 to the 64th; a hundred digits
        String[] great = {"4294967296", "4294967297", "2147483648", "18446744073709551616", "1" + "0".repeat(99)};
        for (String g : great) {
            Check.reads(x, "street", "string " + g + ";", -8, 7);
            Check.reads(x, "law", "5+" + g, -8, 2);
            Check.reads(x, "work", "again " + g + " [];", -8, 6);
            Check.reads(x, "work", "cut " + g + ";", -8, 4);
        }
        Check.reads(x, "book", "0 18446744073709551616;", -8, 2);
        Check.reads(x, "book", "18446744073709551616 0;", -8, 0);
        Check.reads(x, "street", "string 1 2;", -9, 9);
        Check.reads(x, "law", "1 2", -9, 2);
        Check.reads(x, "street", "string 1x;", -9, 8);
        Check.reads(x, "street", "string +1;", -9, 7);
        Check.reads(x, "street", "string /;", -9, 7);
        Check.reads(x, "street", "string :;", -9, 7);
    }

    private static void words() {
        Said.term("WORDS: small letters, as many as stand there");
        DayLaces x = new DayLaces();
        Check.reads(x, "street", "string7;person0 0 0 0;friends 0 1;", -9, 22);
        Check.reads(x, "street", "strin 7;", -9, 0);
        Check.reads(x, "street", "strings 7;", -9, 0);
        Check.reads(x, "street", "String 7;", -9, 0);
        Check.reads(x, "street", "stringA7;", -9, 6);
        Check.reads(x, "street", "str ing 7;", -9, 0);
        Check.reads(x, "street", "string{7;", -9, 6);
        Check.reads(x, "street", "string`7;", -9, 6);
        Check.reads(x, "street", "person0 0 0 0;personperson 0 0 0 0;", -9, 14);
        Check.reads(x, "law", "dayday", -9, 0);
        Check.reads(x, "law", "leastmost[1,2]", -9, 0);
        Check.reads(x, "law", "least[day,day]", 1, -1);
        Check.reads(x, "work", "again2[day;day;];", 4, -1);
        Check.reads(x, "work", "againday;", -9, 0);
        Check.reads(x, "work", "z;", -9, 0);
        Check.reads(x, "work", "a;", -9, 0);
        Check.reads(x, "street", "stringz 7;", -9, 0);
        Check.reads(x, "street", "zstring 7;", -9, 0);
        Check.reads(x, "street", "stringa 7;", -9, 0);
        letters(x, "street", "person", " 0 0 0 0;");
        letters(x, "street", "string", " 0;");
        letters(x, "street", "friend", " 0 0;");
        for (String word : new String[] {"fingers", "haste", "behind", "double", "friend", "self", "slips", "day"}) {
            letters(x, "law", word, "");
        }
        letters(x, "law", "least", "[1,2]");
        letters(x, "law", "most", "[1,2]");
        letters(x, "work", "day", ";");
        letters(x, "work", "again", " 1[];");
        DayLaces one = Check.on(ONE);
        for (String word : new String[] {"tie", "double"}) {
            letters(one, "work", word, " 0 0;");
        }
        for (String word : new String[] {"cut", "mend", "undo"}) {
            letters(one, "work", word, " 0;");
        }
    }

    /** A letter more, less or another one, anywhere in a word: another word, which can't stand there. */
    private static void letters(DayLaces x, String kind, String word, String behind) {
        for (int i = 0; i < word.length(); i++) {
            String begin = word.substring(0, i);
            String rest = word.substring(i + 1);
            Check.reads(x, kind, begin + "x" + rest + behind, -9, 0);
            Check.reads(x, kind, begin + "x" + word.charAt(i) + rest + behind, -9, 0);
            Check.reads(x, kind, begin + rest + behind, -9, 0);
        }
        Check.reads(x, kind, word + "x" + behind, -9, 0);
    }

    private static void blanks() {
        Said.term("blanks (32) may stand ahead of all these, and at the end.");
        DayLaces x = new DayLaces();
        Check.reads(x, "street", "  person  1   2 3 4  ;  friend;", -9, 30);
        Check.reads(x, "street", "  person  1   2 3 4  ; person 1 1 1 1 ; friend  0  1 ; string  3  ;  ", 2, -1);
        Check.reads(x, "law", "  least  [  ( 1 + 2 )  *  3  ,  day  /  1  ]  -  1  %  2  ", 1, -1);
        Check.reads(x, "work", "  again  1  [  tie  0  0  ;  day  ;  ]  ;  ", 2, -1);
        Check.reads(x, "book", "  0   1  ;  1   2  ;  ", 2, -1);
        int[] other = {0, 9, 10, 13, 31, 33, 160};
        for (int b : other) {
            String sign = Character.toString((char) b);
            Check.reads(x, "street", "string" + sign + "3;", -9, 6);
            Check.reads(x, "street", sign + "string 3;", -9, 0);
            Check.reads(x, "street", "string 3;" + sign, -9, 9);
            Check.reads(x, "law", "1" + sign, -9, 1);
            Check.reads(x, "work", sign + "day;", -9, 0);
            Check.reads(x, "book", "0" + sign + "1;", -9, 1);
        }
    }

    private static void firstFault() {
        Said.term("FAULTS, the first from the left, at its first byte");
        DayLaces x = Check.on(ONE);
        Check.reads(x, "street", "string 100;string;", -8, 7);
        Check.reads(x, "street", "string;string 100;", -9, 6);
        Check.reads(x, "street", "person 10 10 21 21", -8, 7);
        Check.reads(x, "street", "person 9 0 0 0 ; string 12345 ;", -8, 24);
        Check.reads(x, "law", "1000+", -8, 0);
        Check.reads(x, "law", "1++1000", -9, 2);
        Check.reads(x, "law", "((((((1000+(1", -8, 6);
        Check.reads(x, "work", "day;cut 1;nothing;", -8, 8);
        Check.reads(x, "work", "day;nothing;cut 1;", -9, 4);
        Check.reads(x, "book", "0 1000;1 0;", -8, 2);
        Check.reads(x, "book", "0 0;0 1000;", -8, 4);
        Check.reads(x, "book", "0 0 0;1 0;", -9, 4);
    }

    private static void textEndsTooEarly() {
        Said.term("1 what can't stand there (at the length, if the text ends too early)");
        DayLaces x = Check.on(ONE);
        // each beginning of a text that is right, but those that are right themselves, ends too early at its length
        String street = "person 9 8 7 6;person 5 4 3 2;friend 0 1;string 7;";
        String law = "least[1,2]+most[3,(4-5)]*fingers";
        String work = "again 2[tie 0 0;double 0 0;];cut 0;mend 0;undo 0;day;";
        String book = "0 17;";
        endsTooEarly(x, "street", street, "(person [0-9 ]*;|friend 0 1;|string 7;)*");
        endsTooEarly(x, "law", law, "least\\[1,2\\](\\+most\\[3,\\(4-5\\)\\](\\*fingers)?)?");
        endsTooEarly(x, "work", work, "(again 2\\[.*\\];(cut 0;(mend 0;(undo 0;(day;)?)?)?)?)?");
        endsTooEarly(x, "book", book, "(0 17;)?");
    }

    /** Cut amid a word, the part of it is what can't stand; else the FAULT is at the length, blanks counted. */
    private static void endsTooEarly(DayLaces x, String kind, String text, String right) {
        for (int n = 0; n < text.length(); n++) {
            String begun = text.substring(0, n);
            boolean amidWord = n > 0 && Character.isLetter(text.charAt(n)) && Character.isLetter(text.charAt(n - 1));
            int word = n - begun.replaceAll("^.*?([a-z]*)$", "$1").length();
            if (!begun.matches(right)) {
                Check.reads(x, kind, begun, -9, amidWord ? word : n);
                if (!amidWord) {
                    Check.reads(x, kind, begun + "  ", -9, n + 2);
                }
            }
        }
    }

    private static void cantStand() {
        DayLaces x = Check.on(ONE);
        String[] streets = {"0;", ";", "[", "day;"};
        for (String t : streets) {
            Check.reads(x, "street", t, -9, 0);
        }
        String[] laws = {"-1", "+1", "*1", ")", "]", ",", ";", "person", "again", "&"};
        for (String t : laws) {
            Check.reads(x, "law", t, -9, 0);
            Check.reads(x, "law", "1+" + t, -9, 2);
        }
        Check.reads(x, "law", "()", -9, 1);
        Check.reads(x, "law", "least(1,2)", -9, 5);
        Check.reads(x, "law", "least[,2]", -9, 6);
        Check.reads(x, "law", "least[1,]", -9, 8);
        Check.reads(x, "law", "[1]", -9, 0);
        Check.reads(x, "law", "(1]", -9, 2);
        Check.reads(x, "law", "1,2", -9, 1);
        Check.reads(x, "law", "2day", -9, 1);
        String[] works = {"]", ";", "0;", "fingers;", "[day;]", "again[];", "tie;", "day,", "day]"};
        int[] places = {0, 0, 0, 0, 0, 5, 3, 3, 3};
        for (int i = 0; i < works.length; i++) {
            Check.reads(x, "work", works[i], -9, places[i]);
        }
        Check.reads(x, "work", "again 1[;];", -9, 8);
        Check.reads(x, "work", "again 1[day;]day;", -9, 13);
        Check.reads(x, "work", "tie 0,0;", -9, 5);
        Check.reads(x, "work", "tie 0 0 0;", -9, 8);
        Check.reads(x, "book", "day 0;", -9, 0);
        Check.reads(x, "book", "0,0;", -9, 1);
        Check.reads(x, "book", "0 0,", -9, 3);
        Check.reads(x, "book", "0 0;;", -9, 4);
        Check.due("nothing was done", 0, () -> x.told(1) + x.count(2));
    }

    private static void openAtOneTime() {
        Said.term("or a 7th of ( least most again that is open at one time");
        DayLaces x = Check.on(ONE);
        for (int mixed = 0; mixed < 729; mixed++) {
            // six open, each of a kind by its own digit of three
            StringBuilder begun = new StringBuilder();
            StringBuilder closed = new StringBuilder();
            for (int i = 0, m = mixed; i < 6; i++, m /= 3) {
                begun.append(OPEN[m % 3][0]);
                closed.insert(0, OPEN[m % 3][1]);
            }
            if (mixed % 7 == 0) {
                Check.reads(x, "law", begun + "1" + closed, 1, -1);
                Check.reads(x, "law", begun + " " + OPEN[mixed % 3][0] + "1" + OPEN[mixed % 3][1] + closed, -7, begun.length() + 1);
            }
        }
        Check.reads(x, "law", "((((((1))))))+((((((1))))))", 1, -1);
        Check.reads(x, "law", "(((((1)))))+least[(((((1))))),(((((2)))))]", 1, -1);
        Check.reads(x, "law", "least[(((((1))))),((((((2))))))]", -7, 23);
        Check.reads(x, "law", "((((((most", -7, 6);
        Check.reads(x, "law", "(1)+(1)+(1)+(1)+(1)+(1)+(1)+(1)", 1, -1);
        Check.reads(x, "work", "again 1[".repeat(6) + "day;" + "];".repeat(6), 1, -1);
        Check.reads(x, "work", "again 1[".repeat(6) + " again 1[day;];" + "];".repeat(6), -7, 49);
        Check.reads(x, "work", "again 1[".repeat(6) + "again", -7, 48);
        Check.reads(x, "work", "again 1[];".repeat(8), 0, -1);
        Check.reads(x, "work", "again 1[".repeat(5) + "again 1[];again 1[];" + "];".repeat(5), 0, -1);
    }

    private static void leastOfOne() {
        Said.term("of one the least.");
        DayLaces x = new DayLaces();
        String packed = "string1;".repeat(60);
        Check.reads(x, "street", packed + "strings 1;", -9, 480);
        Check.reads(x, "street", packed + "day;", -9, 480);
        Check.reads(x, "street", packed + "7;", -9, 480);
        Check.reads(x, "street", FULL + "persons 0 0 0 0;", -9, 120);
        Check.reads(x, "work", "again 1[".repeat(6) + "agains 1[", -9, 48);
        Check.reads(x, "law", "((((((leasts[1,2]", -9, 6);
        Check.reads(x, "law", "((((((1000)))))", -8, 6);
    }

    private static void streetAnew() {
        Said.promise(3, "The first n bytes of the TAPE (empty then) are the STREET (TODAY 0; no LAW, BOOK, IMAGES, "
            + "nothing to undo): how many PERSONS; or the FAULT less 10 (all stays).");
        DayLaces x = Check.on(THREE + "friend 0 1;string 5;");
        // 0 and 1 are tied, 2 is cut and slipped; a STEP of the latest WORK is REFUSED
        Check.law(x, "self*10");
        Check.work(x, "day;tie 0 0;double 1 1;tie 0 2;");
        Check.work(x, "cut 2;mend 0;");
        Check.law(x, "99");
        Check.book(x, "0 5;1 6;");
        x.image();
        x.image();
        Check.reads(x, "street", "person", -9, 6);
        Check.reads(x, "street", THREE + "string 100;", -8, 52);
        Check.reads(x, "street", FULL + ONE, -7, 120);
        Check.due("a new street", 3, () -> Check.street(x, THREE));
        Check.due("as of a new object", State.of(x), State.of(Check.on(THREE)));
        Check.due("nothing to undo", -1, x::undo);
        Check.due("nothing to restore", -1, x::restore);
    }

    private static void lengths() {
        Said.promise(3, "IllegalArgumentException: n is not 0 to the TAPE's bytes (it stays).");
        Said.promise(4, "Likewise the LAW (n to 150): 1.");
        Said.promise(5, "Likewise WORK (n to 150), which is done");
        Said.promise(6, "Likewise the BOOK (n to 60): how many lines.");
        String[] kinds = {"street", "law", "work", "book"};
        int[] most = {600, 150, 150, 60};
        for (int k = 0; k < 4; k++) {
            for (int fed : new int[] {0, 20, 60, 140, 160, 600}) {
                lengthsOf(kinds[k], fed, Math.min(fed, most[k]));
            }
        }
    }

    /** Blanks are on the TAPE: a length beyond what is allowed throws, one within empties the TAPE. */
    private static void lengthsOf(String kind, int fed, int most) {
        DayLaces x = Check.on(ONE);
        Check.feed(x, blanks(fed));
        int refused = 0;
        for (int n : new int[] {-1, most + 1, fed + 1, Integer.MIN_VALUE, Integer.MAX_VALUE}) {
            Check.wrong(kind + " " + n + " of " + fed, () -> read(x, kind, n));
            refused++;
        }
        int r = refused;
        Check.due("the tape stays", fed, () -> x.count(1));
        Check.due("counted", r, () -> x.status(1));
        Check.due(kind + " " + most + " of " + fed, kind.equals("law") ? -9 : 0, () -> read(x, kind, most));
        Check.due("its fault", kind.equals("law") ? most : -1, x::fault);
        Check.due("the tape is empty", 0, () -> x.count(1));
        Check.feed(x, blanks(fed));
        Check.due(kind + " of no bytes", kind.equals("law") ? -9 : 0, () -> read(x, kind, 0));
        Check.due("the rest is gone, too", 0, () -> x.count(1));
    }

    /** What stands on the TAPE behind the first n bytes is not read, though it would go on with a number, a word, a text. */
    private static void firstBytes() {
        Said.promise(3, "The first n bytes of the TAPE (empty then) are the STREET");
        first("law", "1234", 1, 1, -1);
        first("law", "99999", 3, 1, -1);
        first("law", "99999", 4, -8, 0);
        first("law", "dayday", 3, 1, -1);
        first("law", "day", 2, -9, 0);
        first("law", "1+1+1", 3, 1, -1);
        first("law", "1+1+1", 4, -9, 4);
        first("law", "(1)", 2, -9, 2);
        first("law", "1  +1", 3, 1, -1);
        first("street", "string 99;string 100;", 10, 0, -1);
        first("street", "string 99;string 100;", 20, -8, 17);
        first("street", "string 999;", 9, -9, 9);
        first("street", "string 5;strings", 15, -9, 15);
        first("street", "string 5;", 3, -9, 0);
        first("work", "day;day;", 4, 1, -1);
        first("work", "day;day;", 7, -9, 7);
        first("work", "again 12[day;];", 7, -9, 7);
        first("work", "day;tie", 6, -9, 4);
        first("book", "0 0;0 0;", 4, 1, -1);
        first("book", "0 9999;", 5, -9, 5);
        first("book", "0 5;1", 4, 1, -1);
        DayLaces x = new DayLaces();
        Check.feed(x, "12345678901234567890");
        Check.due("two digits of twenty", 1, () -> x.law(2));
        Check.due("are 12", 12, () -> x.would(0, 0, 0, 0, 0, 0, 0, 0));
    }

    private static void first(String kind, String tape, int n, int answer, int place) {
        DayLaces x = Check.on(ONE);
        Check.feed(x, tape);
        Check.due(kind + " of " + n + " bytes of " + tape, answer, () -> read(x, kind, n));
        Check.due("its fault", place, x::fault);
        Check.due("the tape is empty", 0, () -> x.count(1));
    }

    private static int read(DayLaces x, String kind, int n) {
        switch (kind) {
            case "street": return x.street(n);
            case "law": return x.law(n);
            case "work": return x.work(n);
            default: return x.book(n);
        }
    }

    private static void fullOfWorks() {
        Said.promise(5, "-20 ahead of that (nothing is read, there is no FAULT, the TAPE is empty then): "
            + "16 WORKS are there that were not undone.");
        DayLaces x = Check.on(ONE);
        for (int i = 1; i <= 15; i++) {
            Check.work(x, "day;");
        }
        Check.due("the 16th", 1, () -> Check.work(x, "day;mend 0;"));
        Check.due("16", 16, () -> x.count(2));
        Check.reads(x, "law", "+", -9, 0);
        Check.reads(x, "work", "day;", -20, -1);
        Check.reads(x, "law", "+", -9, 0);
        Check.reads(x, "work", "this can't stand", -20, -1);
        Check.reads(x, "work", "", -20, -1);
        Check.feed(x, blanks(200));
        Check.wrong("a wrong length is no WORK", () -> x.work(151));
        Check.due("the tape stays", 200, () -> x.count(1));
        Check.due("-20", -20, () -> x.work(150));
        Check.due("nothing is done", 16, () -> x.told(1));
        Check.due("16 as before", 16, () -> x.count(2));
        Check.due("the latest WORK is as before", 1, () -> x.told(10));
        Check.due("undone", 15, x::undo);
        Check.reads(x, "work", "this can't stand", -9, 0);
        Check.reads(x, "work", "day;", 1, -1);
        Check.reads(x, "work", "day;", -20, -1);
    }

    private static void latestFault() {
        Said.promise(5, "or the FAULT less 10 (none is)");
        Said.promise(7, "The place of the FAULT of the latest text; NONE without.");
        DayLaces x = new DayLaces();
        Check.due("no text yet", -1, x::fault);
        Check.reads(x, "street", ONE + "x", -9, 15);
        Check.reads(x, "law", "1+1+", -9, 4);
        Check.reads(x, "work", "day;cut 0;", -8, 8);
        Check.due("none is", 0, () -> x.told(1) + x.count(2));
        Check.reads(x, "book", "0", -8, 0);
        x.undo();
        x.restore();
        x.image();
        x.feed(0, 0, 0, 0, 0);
        Check.due("stays until the next text", 0, x::fault);
        Check.wrong("a length that is none such", () -> x.book(21));
        Check.due("nothing was read", 0, x::fault);
        Check.due("read", 0, () -> x.book(0));
        Check.due("none any more", -1, x::fault);
    }
}
