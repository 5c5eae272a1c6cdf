import java.util.Random;

/** Texts drawn by a seed: mostly right ones, some with a byte changed. */
final class Texts {
    private static final String[] VALUES = {"fingers", "haste", "behind", "double", "friend", "self", "slips", "day"};
    private static final String[] WORDS = {"person", "friend", "string", "tie", "double", "cut", "mend", "undo",
        "day", "again", "least", "most", "fingers", "self"};
    private static final String[] SIGNS = {";", "[", "]", "(", ")", ",", "+", "-", "*", "/", "%", " ", "&", "A", "0",
        "9", "21", "100", "1000", "99999999999"};

    private final Random random;

    Texts(Random random) {
        this.random = random;
    }

    private int to(int most) {
        return random.nextInt(most + 1);
    }

    private String blanks() {
        return random.nextInt(12) == 0 ? " ".repeat(to(2)) : "";
    }

    private String number(int most) {
        return (random.nextInt(20) == 0 ? "00" : "") + to(most);
    }

    private String personNumber(int persons) {
        return random.nextInt(60) == 0 ? Integer.toString(to(9)) : number(Math.max(0, persons - 1));
    }

    String street() {
        StringBuilder s = new StringBuilder();
        int persons = random.nextInt(10) == 0 ? to(9) : 3 + to(5);
        int told = 0;
        for (int i = 0; i < persons; i++) {
            s.append(blanks()).append("person ").append(number(9)).append(' ').append(number(9)).append(' ')
                .append(number(20)).append(blanks()).append(' ').append(number(20)).append(blanks()).append(';');
            told++;
            if (told > 1 && random.nextInt(2) == 0) {
                int a = to(told - 1);
                int b = to(told - 1);
                if (a != b || random.nextInt(30) == 0) {
                    s.append("friend ").append(a).append(' ').append(b).append(';');
                }
            }
            if (random.nextInt(6) == 0) {
                s.append("string").append(number(99)).append(';');
            }
        }
        if (random.nextInt(40) == 0) {
            s.append("string0;".repeat(48 + to(12)));
        }
        return cut(mutated(s.append(blanks()).toString()), 600);
    }

    String law() {
        if (random.nextInt(2) == 0) {
            return mutated(lawNearHolding());
        }
        String s = sum(0);
        for (int i = 0; i < 50 && s.length() > 150; i++) {
            s = sum(0);
        }
        return cut(mutated(s + blanks()), 150);
    }

    /** One by which some laces hold and others slip. */
    private String lawNearHolding() {
        return to(12) + "+" + VALUES[to(7)] + "*" + to(3) + "-" + VALUES[to(7)] + "+double*" + to(9) + "+friend*"
            + to(9) + "-self*" + to(5) + "+(fingers+" + to(9) + ")%" + to(12);
    }

    private String sum(int depth) {
        StringBuilder s = new StringBuilder(product(depth));
        for (int i = to(2); i > 0; i--) {
            s.append(blanks()).append(random.nextInt(3) > 0 ? '+' : '-').append(product(depth));
        }
        return s.toString();
    }

    private String product(int depth) {
        StringBuilder s = new StringBuilder(unit(depth));
        for (int i = random.nextInt(3) == 0 ? 1 + to(1) : 0; i > 0; i--) {
            s.append("*/%".charAt(to(2))).append(unit(depth));
        }
        return s.toString();
    }

    private String unit(int depth) {
        int kind = depth > 6 ? to(5) : to(9);
        if (kind < 2) {
            return blanks() + number(random.nextInt(3) == 0 ? 999 : 20);
        }
        if (kind < 6) {
            return blanks() + VALUES[to(7)];
        }
        if (kind < 8) {
            return blanks() + "(" + sum(depth + 1) + blanks() + ")";
        }
        return (kind == 8 ? "least" : "most") + blanks() + "[" + sum(depth + 1) + "," + sum(depth + 1) + "]";
    }

    String work(int persons) {
        StringBuilder s = new StringBuilder();
        int many = to(9);
        boolean chained = random.nextInt(3) == 0;
        int last = to(Math.max(0, persons - 1));
        for (int i = 0; i < many; i++) {
            int next = to(Math.max(0, persons - 1));
            String step = chained ? chainStep(i == 0 ? next : last, next) : step(persons, 0);
            last = next;
            if (s.length() + step.length() <= 148) {
                s.append(step);
            }
        }
        return cut(mutated(s.append(blanks()).toString()), 150);
    }

    /** The one who was tied ties the next, so that laces go from hand to hand. */
    private String chainStep(int a, int b) {
        int kind = to(5);
        return kind == 0 ? "day;undo " + a + ";double " + a + " " + a + ";" : kind < 3
            ? "double " + a + " " + b + ";" : "tie " + a + " " + b + ";";
    }

    private String step(int persons, int depth) {
        int kind = to(15);
        if (kind < 5) {
            String a = personNumber(persons);
            return blanks() + "tie " + a + " " + (random.nextInt(3) == 0 ? a : personNumber(persons)) + blanks() + ";";
        }
        if (kind < 8) {
            String a = personNumber(persons);
            return "double " + a + " " + (random.nextInt(2) == 0 ? a : personNumber(persons)) + ";";
        }
        if (kind < 11) {
            return blanks() + "day" + blanks() + ";";
        }
        if (kind < 14 || depth > 6) {
            String[] words = {"cut ", "mend ", "undo "};
            return words[to(2)] + personNumber(persons) + ";";
        }
        StringBuilder s = new StringBuilder("again ");
        s.append(number(random.nextInt(30) == 0 ? 62 : 12)).append(blanks()).append('[');
        for (int i = to(3); i > 0; i--) {
            s.append(step(persons, depth + 1));
        }
        return s.append(blanks()).append("];").toString();
    }

    /** Lines near the DAYS that are told, so that some pairs are right. */
    String book(int[] daysNow, int today) {
        StringBuilder s = new StringBuilder();
        for (int p = 0; p < daysNow.length; p++) {
            if (random.nextInt(3) == 0) {
                int day = random.nextInt(8) == 0 ? today : daysNow[random.nextInt(8) == 0 ? to(daysNow.length - 1) : p];
                s.append(blanks()).append(p).append(' ').append(day).append(blanks()).append(';');
            }
        }
        if (random.nextInt(20) == 0) {
            s.append("0 5;");
        }
        return cut(mutated(s.toString()), 60);
    }

    private String cut(String s, int most) {
        return s.length() > most ? s.substring(0, most) : s;
    }

    private String mutated(String s) {
        if (random.nextInt(6) != 0) {
            return s;
        }
        StringBuilder t = new StringBuilder(s);
        int at = to(s.length());
        switch (to(4)) {
            case 0:
                t.insert(at, SIGNS[to(SIGNS.length - 1)]);
                break;
            case 1:
                t.insert(at, WORDS[to(WORDS.length - 1)]);
                break;
            case 2:
                t.setLength(at);
                break;
            case 3:
                if (at < s.length()) {
                    t.deleteCharAt(at);
                }
                break;
            default:
                if (at < s.length()) {
                    t.setCharAt(at, (char) to(255));
                }
        }
        return t.toString();
    }
}
