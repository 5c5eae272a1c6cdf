import java.lang.reflect.Method;
import java.util.ArrayList;
import java.util.Arrays;
import java.util.List;
import java.util.Random;

/** Long runs of calls drawn by fixed seeds: the class answers each as the model does. */
public final class ModelTest {
    private static final int RUNS = 700;
    private static final int CALLS = 500;
    private static final String[] ASKED = {"told", "person", "hold", "would", "can", "ahead", "catches", "far",
        "round", "kneel", "kneels", "ring", "fits", "look", "soldier", "dry", "share", "slowest", "helpers", "tied",
        "within", "days", "kin", "steady", "best", "gap", "nearest", "later", "loose", "farthest", "mates", "middle",
        "week", "span", "status", "count", "fault"};

    private final Random random;
    private final Texts texts;
    private final DayLaces laces = new DayLaces();
    private final Model model = new Model();
    private final List<String> calls = new ArrayList<>();
    private boolean differs = false;

    private ModelTest(long seed) {
        random = new Random(seed);
        texts = new Texts(random);
    }

    public static void main(String[] args) {
        for (int run = 0; run < RUNS && Check.wrongYet() < 5; run++) {
            new ModelTest(run).run();
        }
        Check.end();
    }

    private void run() {
        // most runs have a street that was read; a few ask on without one
        int tries = random.nextInt(20) > 0 ? 9 : 0;
        for (int i = 0; i < tries && model.told(0) < 2; i++) {
            text("street", texts.street());
        }
        while (calls.size() < CALLS && !differs) {
            change(random.nextInt(100));
            for (int i = random.nextInt(12); i > 0; i--) {
                ask(ASKED[random.nextInt(ASKED.length)]);
            }
        }
    }

    private void change(int kind) {
        int persons = model.told(0);
        if (kind < 2) {
            text("street", texts.street());
        } else if (kind < 12) {
            text("law", texts.law());
        } else if (kind < 52) {
            text("work", texts.work(persons));
        } else if (kind < 67) {
            int[] days = new int[persons];
            for (int p = 0; p < persons; p++) {
                days[p] = model.person(p, 4);
            }
            text("book", texts.book(days, model.told(1)));
        } else if (kind < 80) {
            call("undo");
        } else if (kind < 86) {
            call("image");
        } else if (kind < 92) {
            call("restore");
        } else if (kind < 94) {
            call("feed", random.nextInt(), random.nextInt(), random.nextInt(), random.nextInt(), random.nextInt());
        } else if (kind < 96) {
            text("work", "again 60 [again 3 [day;];];");
        } else {
            call(List.of("street", "law", "work", "book").get(random.nextInt(4)), random.nextInt(200) - 1);
        }
    }

    private void text(String name, String text) {
        for (int from = 0; from < text.length(); from += 20) {
            call("feed", Check.four(text, from), Check.four(text, from + 4), Check.four(text, from + 8),
                Check.four(text, from + 12), Check.four(text, from + 16));
        }
        calls.add("// " + text);
        call(name, text.length());
        call("fault");
    }

    private void ask(String name) {
        Method method = Calls.methodOf(DayLaces.class, name);
        Object[] args = new Object[method.getParameterCount()];
        for (int i = 0; i < args.length; i++) {
            args[i] = argument(name, i);
        }
        call(name, args);
    }

    /** Mostly one within the document's bounds, at times one at them or beyond. */
    private int argument(String name, int i) {
        int persons = model.told(0);
        if (random.nextInt(120) == 0) {
            return new int[] {-1, Integer.MIN_VALUE, Integer.MAX_VALUE, 1000, 256, 100, 97, 17, 13}[random.nextInt(9)];
        }
        int person = random.nextInt(40) == 0 ? random.nextInt(10) - 1 : persons > 0 ? random.nextInt(persons) : 0;
        int set = random.nextInt(30) == 0 ? random.nextInt(300) : random.nextInt(1 << persons);
        int what = random.nextInt(30) == 0 ? 2 : random.nextInt(2);
        switch (name) {
            case "told": return random.nextInt(12);
            case "person": return i == 0 ? person : random.nextInt(11);
            case "hold": return i < 2 ? person : what;
            case "would": return new int[] {random.nextInt(10), random.nextInt(10), random.nextInt(40), what, what,
                what, random.nextInt(40), random.nextInt(901)}[i];
            case "ahead": return i == 0 ? random.nextInt(101) : random.nextInt(3);
            case "round": return i == 0 ? person : set;
            case "ring": return i == 0 ? person : what;
            case "kneel": case "fits": case "look": case "slowest": case "farthest": case "middle": return what;
            case "soldier": return i < 2 ? random.nextInt(random.nextBoolean() ? 5 : 101) : random.nextInt(3);
            case "dry": return i == 3 ? what : random.nextInt(new int[] {14, 15, 18}[i]);
            case "share": return i == 0 ? person : i == 1 ? set : random.nextInt(random.nextBoolean() ? 60 : 10001);
            case "within": return random.nextBoolean() ? model.told(1) : random.nextInt(1001);
            case "later": return i == 0 ? person : random.nextInt(101);
            case "week": return new int[] {random.nextInt(), 1 + random.nextInt(97), random.nextInt(17),
                random.nextInt(4)}[i];
            case "span": return new int[] {random.nextInt(), 1 + random.nextInt(20), 1 + random.nextInt(20),
                random.nextInt(17), random.nextInt(3), person}[i];
            case "status": case "count": return random.nextInt(5) - 1;
            default: return person;
        }
    }

    private void call(String name, Object... args) {
        if (differs) {
            return;
        }
        String got = Calls.answer(laces, name, args);
        String want = Calls.answer(model, name, args);
        calls.add(name + Arrays.toString(args) + " = " + want);
        Check.due(name + Arrays.toString(args), got, want);
        if (!got.equals(want)) {
            differs = true;
            calls.stream().filter(c -> !c.startsWith("feed")).skip(Math.max(0, calls.size() - 200))
                .forEach(System.out::println);
        }
    }
}
