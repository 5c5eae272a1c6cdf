/** Promises 16 to 19, 31, 35, 38, 40: ways, rounds, who kneels before whom, kin. */
public final class WaysTest {
    private static final String FOUR =
        "person 9 2 0 0;person 4 5 3 4;person 1 9 10 0;person 6 0 3 0;friend 0 1;friend 2 3;";

    private WaysTest() {
    }

    public static void main(String[] args) {
        ways();
        rounds();
        kneeling();
        kneelingByDays();
        kin();
        refusing();
        Check.end();
    }

    private static void ways() {
        DayLaces x = Check.on(FOUR);
        Check.due("far", 7, () -> x.far(0, 1));
        Check.due("far back", 7, () -> x.far(1, 0));
        Check.due("far to itself", 0, () -> x.far(2, 2));
        Check.due("nearest of alike ones", 3, () -> x.nearest(0));
        Check.due("nearest to 3", 0, () -> x.nearest(3));
        Check.due("farthest two", 12, () -> x.farthest(0));
        Check.due("farthest", 11, () -> x.farthest(1));
        Check.due("middle", 3, () -> x.middle(0));
        Check.due("ways from there", 14, () -> x.middle(1));
        DayLaces one = Check.on("person 0 0 5 5;");
        Check.due("nearest to nobody", -1, () -> one.nearest(0));
        Check.due("no two", -1, () -> one.farthest(0));
        Check.due("no two, way", -1, () -> one.farthest(1));
        Check.due("one in the middle", 0, () -> one.middle(0));
        Check.due("no ways", 0, () -> one.middle(1));
        DayLaces none = new DayLaces();
        Check.due("nobody in the middle", -1, () -> none.middle(0));
        Check.due("no middle", -1, () -> none.middle(1));
        DayLaces same = Check.on("person 0 0 5 5;".repeat(3));
        Check.due("two at one place", 1, () -> same.farthest(0));
        Check.due("way 0", 0, () -> same.farthest(1));
        Check.due("nearest, the first", 1, () -> same.nearest(0));
        Check.due("nearest, the first other", 0, () -> same.nearest(2));
        Check.due("middle, the first", 0, () -> same.middle(0));
        DayLaces wide = Check.on("person 0 0 0 20;person 0 0 20 0;person 0 0 0 0;person 0 0 20 20;");
        Check.due("first of alike farthest", 1, () -> wide.farthest(0));
        Check.due("40", 40, () -> wide.farthest(1));
    }

    private static void rounds() {
        DayLaces x = Check.on(FOUR);
        Check.due("all", 18, () -> x.round(0, 15));
        Check.due("from 3", 3 + 7 + 11, () -> x.round(3, 15));
        Check.due("from 2", 7 + 3 + 7, () -> x.round(2, 11));
        Check.due("none", 0, () -> x.round(2, 0));
        Check.due("itself", 0, () -> x.round(2, 4));
        Check.due("one", 11, () -> x.round(2, 2));
        // on a line at 10: near one end first and then the other is the least way
        DayLaces line = Check.on("person 0 0 10 0;person 0 0 8 0;person 0 0 13 0;person 0 0 5 0;person 0 0 20 0;");
        Check.due("line", 5 + 15, () -> line.round(0, 31));
        Check.due("line from an end", 15, () -> line.round(3, 31));
        DayLaces eight = Check.on("person 0 0 0 0;person 0 0 20 0;person 0 0 0 20;person 0 0 20 20;"
            + "person 0 0 10 0;person 0 0 0 10;person 0 0 20 10;person 0 0 10 20;");
        Check.due("eight", 70, () -> eight.round(0, 255));
        Check.due("eight from a side", 70, () -> eight.round(4, 255));
        DayLaces same = Check.on("person 0 0 5 5;".repeat(8));
        Check.due("all at one place", 0, () -> same.round(7, 255));
    }

    private static void kneeling() {
        DayLaces first = Check.on(FOUR);
        Check.due("kneels ahead of kneel", 1, () -> first.kneels(1));
        Check.due("3 ahead of kneel", 3, () -> first.kneels(3));
        DayLaces x = Check.on(FOUR);
        Check.due("given", 3, () -> x.kneel(0));
        Check.due("days", 0, () -> x.kneel(1));
        Check.due("itself", 0, () -> x.kneels(0));
        Check.due("nobody", -1, () -> x.kneels(2));
        Check.work(x, "tie 0 0;tie 0 1;");
        // 0 and 1 are tied; 2 by 0 alone (27), 3 by 0, 1 or itself
        Check.due("given two", 2, () -> x.kneel(0));
        Check.due("2 by 0", 0, () -> x.kneels(2));
        Check.due("3 by 1, ahead of itself", 1, () -> x.kneels(3));
        Check.due("tied: nobody", -1, () -> x.kneels(0));
        Check.work(x, "cut 2;");
        Check.due("given one", 1, () -> x.kneel(0));
        Check.due("cut: nobody", -1, () -> x.kneels(2));
        Check.due("3 by 0 then", 0, () -> x.kneels(3));
        DayLaces none = new DayLaces();
        Check.due("without persons", 0, () -> none.kneel(0) + none.kneel(1));
        // one who is tied, three who can't tie themselves: one is given, the least who is tied
        DayLaces y = Check.on("person 0 0 0 0;person 0 0 0 0;person 9 0 0 0;person 0 0 0 0;");
        Check.work(y, "tie 2 2;");
        Check.due("nobody ties two", 1, () -> y.kneel(0));
        Check.due("0 by 2: none is last", 2, () -> y.kneels(0));
        Check.due("1 by none", -1, () -> y.kneels(1));
        Check.due("3 by none", -1, () -> y.kneels(3));
    }

    private static void kneelingByDays() {
        DayLaces x = Check.on("person 9 0 0 0;person 9 0 0 0;person 0 0 0 0;");
        Check.work(x, "cut 1;double 0 0;day;undo 0;day;mend 1;day;");
        // in days 1, 2, 0; today 3
        Check.due("both themselves", 2, () -> x.kneel(0));
        Check.due("today twice", 6, () -> x.kneel(1));
        Check.due("2 by nobody", -1, () -> x.kneels(2));
        Check.work(x, "tie 1 1;");
        Check.due("0 and 2", 2, () -> x.kneel(0));
        Check.due("today twice again", 6, () -> x.kneel(1));
        Check.due("0 by itself", 0, () -> x.kneels(0));
        Check.due("2 by 1", 1, () -> x.kneels(2));
        Check.due("nothing is done", 2, () -> x.told(2));
        // 0 would come first by 1, but then nobody were left for 2
        DayLaces y = Check.on("person 0 0 0 0;person 9 0 0 0;person 0 9 0 0;person 3 0 0 0;");
        Check.work(y, "tie 1 1;tie 3 3;");
        Check.due("both are given", 2, () -> y.kneel(0));
        Check.due("0 by 3", 3, () -> y.kneels(0));
        Check.due("2 by 1", 1, () -> y.kneels(2));
    }

    private static void kin() {
        DayLaces x = Check.on(FOUR);
        Check.due("kin of 0", 3, () -> x.kin(0));
        Check.due("kin of 3", 12, () -> x.kin(3));
        DayLaces chain = Check.on("person 0 0 0 0;".repeat(8)
            + "friend 7 0;friend 0 6;friend 6 1;friend 1 5;friend 5 2;friend 2 4;");
        Check.due("kin of 7", 247, () -> chain.kin(7));
        Check.due("kin of 4", 247, () -> chain.kin(4));
        Check.due("kin of 3", 8, () -> chain.kin(3));
    }

    private static void refusing() {
        DayLaces x = Check.on(FOUR);
        int[] none = {-1, 4, Integer.MIN_VALUE, Integer.MAX_VALUE};
        for (int p : none) {
            Check.noPerson("far " + p, () -> x.far(p, 0));
            Check.noPerson("far to " + p, () -> x.far(0, p));
            Check.noPerson("round " + p, () -> x.round(p, 99));
            Check.noPerson("kneels " + p, () -> x.kneels(p));
            Check.noPerson("kin " + p, () -> x.kin(p));
            Check.noPerson("nearest " + p, () -> x.nearest(p));
        }
        int[] wrong = {-1, 2, Integer.MIN_VALUE, Integer.MAX_VALUE};
        for (int what : wrong) {
            Check.wrong("kneel " + what, () -> x.kneel(what));
            Check.wrong("farthest " + what, () -> x.farthest(what));
            Check.wrong("middle " + what, () -> x.middle(what));
        }
        Check.wrong("round 16", () -> x.round(0, 16));
        Check.wrong("round -1", () -> x.round(0, -1));
        Check.wrong("round least", () -> x.round(0, Integer.MIN_VALUE));
        Check.due("no persons counted", 24, () -> x.status(0));
        Check.due("wrong ones counted", 15, () -> x.status(1));
        DayLaces eight = Check.on("person 0 0 0 0;".repeat(8));
        Check.wrong("round 256", () -> eight.round(0, 256));
    }
}
