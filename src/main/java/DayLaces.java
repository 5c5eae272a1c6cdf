import java.util.NoSuchElementException;

/**
 * Laces tie people in with the day before. A street, a law, works and a book come as texts from a
 * tape; everything else is asked. Rows are made once, in the constructors, and used again.
 */
public final class DayLaces {
    public static final int NONE = -1;

    private static final int MOST_PERSONS = 8;
    private static final int MOST_CLAUSES = 60;
    private static final int MOST_OPEN = 6;
    private static final int MOST_WORKS = 16;
    private static final int MOST_IMAGES = 3;
    private static final int TAPE_BYTES = 600;
    private static final int LAW_BYTES = 150;
    private static final int WORK_BYTES = 150;
    private static final int BOOK_BYTES = 60;
    private static final int LAST_DAY = 900;
    private static final int LAST_TOLD_DAY = 999;
    private static final int LONGEST_WAIT = 99;
    /** A lace holds from this HOLD on. */
    private static final int HOLDS_FROM = 10;
    /** What work() answers when no more WORKS can be kept for undoing. */
    private static final int TOO_MANY_WORKS = -20;
    /** A FAULT is answered less this, so that it is below 0 and unlike NONE. */
    private static final int FAULT_LESS = 10;
    /** Above every way and every sum of BEHIND. */
    private static final int BEYOND_ALL = 1000000;

    private final Reader reader;
    private final Street street;
    private final Street nextStreet;
    private final Law law;
    private final Lacing lacing;
    private final Work program;
    private final Book lines;
    private final Kneeling kneeling;
    private final History history;
    private final State now;
    private final State trial;
    private final int[] walks;
    private int refusedSteps;
    private int unknownPersons;
    private int wrongArguments;

    public DayLaces() {
        Street told = new Street();
        Law held = new Law();
        Lacing laws = new Lacing(told, held);
        reader = new Reader();
        street = told;
        nextStreet = new Street();
        law = held;
        lacing = laws;
        program = new Work(laws);
        lines = new Book(told, laws);
        kneeling = new Kneeling(told, laws);
        history = new History();
        State first = new State();
        first.begin();
        now = first;
        trial = new State();
        walks = new int[(1 << MOST_PERSONS) * MOST_PERSONS];
    }

    // ---- texts ----

    public int feed(int a, int b, int c, int d, int e) {
        if (!reader.hasRoom()) {
            return NONE;
        }
        reader.add(a);
        reader.add(b);
        reader.add(c);
        reader.add(d);
        reader.add(e);
        return reader.length;
    }

    public int street(int n) throws IllegalArgumentException {
        require(n >= 0 && n <= reader.length);
        reader.open(n);
        nextStreet.readFrom(reader);
        reader.empty();
        if (reader.fault != 0) {
            return reader.fault - FAULT_LESS;
        }
        street.copyFrom(nextStreet);
        law.forget();
        lines.forget();
        now.begin();
        history.forget();
        refusedSteps = 0;
        return street.persons;
    }

    public int law(int n) throws IllegalArgumentException {
        require(n >= 0 && n <= reader.length && n <= LAW_BYTES);
        reader.open(n);
        law.readFrom(reader);
        reader.empty();
        return reader.fault != 0 ? reader.fault - FAULT_LESS : 1;
    }

    public int work(int n) throws IllegalArgumentException {
        require(n >= 0 && n <= reader.length && n <= WORK_BYTES);
        if (history.isFull()) {
            reader.open(0);
            reader.empty();
            return TOO_MANY_WORKS;
        }
        reader.open(n);
        program.readFrom(reader, street.persons);
        reader.empty();
        if (reader.fault != 0) {
            return reader.fault - FAULT_LESS;
        }
        history.keepWork(now);
        program.begin(now);
        program.runSteps(0, program.size, 0);
        refusedSteps = program.refused;
        return program.done;
    }

    public int book(int n) throws IllegalArgumentException {
        require(n >= 0 && n <= reader.length && n <= BOOK_BYTES);
        reader.open(n);
        lines.readFrom(reader);
        reader.empty();
        return reader.fault != 0 ? reader.fault - FAULT_LESS : lines.size;
    }

    public int fault() {
        return reader.place;
    }

    public int undo() {
        if (history.works == 0) {
            return NONE;
        }
        history.takeWorkBack(now);
        refusedSteps = 0;
        return history.works;
    }

    // ---- what is ----

    public int told(int what) throws IllegalArgumentException {
        require(what >= 0 && what <= 11);
        switch (what) {
            case 0: return street.persons;
            case 1: return now.today;
            case 2: return now.tiedBits(street.persons, 1);
            case 3: return now.tiedBits(street.persons, 2);
            case 4: return now.cut;
            case 5: return now.behindBits(street.persons);
            case 6: return now.behindTogether(street.persons);
            case 7: return now.slipsTogether(street.persons);
            case 8: return street.string;
            case 9: return lines.size;
            case 10: return refusedSteps;
            default: return now.ties;
        }
    }

    public int person(int person, int what) throws NoSuchElementException, IllegalArgumentException {
        requirePerson(person);
        require(what >= 0 && what <= 10);
        switch (what) {
            case 0: return street.fingers[person];
            case 1: return street.haste[person];
            case 2: return street.x[person];
            case 3: return street.y[person];
            case 4: return now.day[person];
            case 5: return now.behindOf(person);
            case 6: return now.knot[person];
            case 7: return now.isCut(person) ? 1 : 0;
            case 8: return now.slips[person];
            case 9: return now.by[person];
            default: return street.friends[person];
        }
    }

    public int hold(int person, int other, int twice)
            throws NoSuchElementException, IllegalArgumentException {
        requirePerson(person);
        requirePerson(other);
        require(isBit(twice));
        return lacing.holdOf(now, person, other, twice);
    }

    public int would(int fingers, int haste, int behind, int twice, int friend, int self, int slips, int day)
            throws IllegalArgumentException {
        require(fingers >= 0 && fingers <= 9 && haste >= 0 && haste <= 9);
        require(behind >= 0 && behind <= 999 && slips >= 0 && slips <= 999);
        require(isBit(twice) && isBit(friend) && isBit(self));
        require(day >= 0 && day <= LAST_DAY);
        law.put(Law.FINGERS, fingers);
        law.put(Law.HASTE, haste);
        law.put(Law.BEHIND, behind);
        law.put(Law.DOUBLE, twice);
        law.put(Law.FRIEND, friend);
        law.put(Law.SELF, self);
        law.put(Law.SLIPS, slips);
        law.put(Law.DAY, day);
        return law.worth();
    }

    public boolean can(int person, int other) throws NoSuchElementException {
        requirePerson(person);
        requirePerson(other);
        return now.mayTie(person, other);
    }

    // ---- days ahead ----

    public int ahead(int n, int what) throws IllegalArgumentException {
        require(n >= 0 && n <= LONGEST_WAIT && what >= 0 && what <= 2);
        letDaysPass(n);
        switch (what) {
            case 0: return trial.behindTogether(street.persons);
            case 1: return trial.behindBits(street.persons);
            default: return trial.tiedBits(street.persons, 1);
        }
    }

    public int catches(int person) throws NoSuchElementException {
        requirePerson(person);
        trial.copyFrom(now);
        for (int n = 0; n <= LONGEST_WAIT; n++) {
            if (trial.behindOf(person) == 0) {
                return n;
            }
            lacing.tieLace(trial, person, person, 1);
            trial.passDay(street.persons);
        }
        return NONE;
    }

    public int later(int person, int n) throws NoSuchElementException, IllegalArgumentException {
        requirePerson(person);
        require(n >= 0 && n <= LONGEST_WAIT);
        letDaysPass(n);
        return trial.day[person];
    }

    private void letDaysPass(int n) {
        trial.copyFrom(now);
        for (int i = 0; i < n; i++) {
            trial.passDay(street.persons);
        }
    }

    // ---- ways ----

    public int far(int person, int other) throws NoSuchElementException {
        requirePerson(person);
        requirePerson(other);
        return street.wayBetween(person, other);
    }

    public int round(int person, int persons) throws NoSuchElementException, IllegalArgumentException {
        requirePerson(person);
        requireBits(persons);
        return street.leastRound(person, persons, walks);
    }

    public int nearest(int person) throws NoSuchElementException {
        requirePerson(person);
        int nearestYet = NONE;
        for (int p = 0; p < street.persons; p++) {
            if (p != person && (nearestYet == NONE
                    || street.wayBetween(person, p) < street.wayBetween(person, nearestYet))) {
                nearestYet = p;
            }
        }
        return nearestYet;
    }

    public int farthest(int what) throws IllegalArgumentException {
        require(isBit(what));
        int pair = NONE;
        int most = NONE;
        for (int a = 0; a < street.persons; a++) {
            for (int b = a + 1; b < street.persons; b++) {
                if (street.wayBetween(a, b) > most) {
                    most = street.wayBetween(a, b);
                    pair = 10 * a + b;
                }
            }
        }
        return what == 0 ? pair : most;
    }

    public int middle(int what) throws IllegalArgumentException {
        require(isBit(what));
        int middleYet = NONE;
        int least = NONE;
        for (int p = 0; p < street.persons; p++) {
            int ways = street.waysTogether(p);
            if (middleYet == NONE || ways < least) {
                middleYet = p;
                least = ways;
            }
        }
        return what == 0 ? middleYet : least;
    }

    // ---- who ties whom ----

    public int kneel(int what) throws IllegalArgumentException {
        require(isBit(what));
        kneeling.search(now);
        return what == 0 ? kneeling.mostGiven : kneeling.mostDays;
    }

    public int kneels(int person) throws NoSuchElementException {
        requirePerson(person);
        kneeling.search(now);
        return kneeling.bestChoice[person];
    }

    public int ring(int person, int what) throws NoSuchElementException, IllegalArgumentException {
        requirePerson(person);
        require(isBit(what));
        int seen = 0;
        int at = person;
        int steps = 0;
        while (steps <= MOST_PERSONS && at >= 0 && at < MOST_PERSONS && (seen & 1 << at) == 0) {
            seen |= 1 << at;
            at = now.by[at];
            steps += at == NONE ? 0 : 1;
        }
        return what == 0 ? steps : at == NONE ? 0 : 1;
    }

    public int helpers(int person) throws NoSuchElementException {
        requirePerson(person);
        return lacing.helperBits(now, person);
    }

    public int tied(int person) throws NoSuchElementException {
        requirePerson(person);
        int bits = 0;
        for (int p = 0; p < street.persons; p++) {
            bits |= now.by[p] == person ? 1 << p : 0;
        }
        return bits;
    }

    public int steady() {
        int bits = 0;
        for (int p = 0; p < street.persons; p++) {
            bits |= lacing.wouldTie(now, p, p) ? 1 << p : 0;
        }
        return bits;
    }

    public int best(int person) throws NoSuchElementException {
        requirePerson(person);
        int bestYet = NONE;
        int most = NONE;
        for (int p = 0; p < street.persons; p++) {
            int holds = now.mayTie(p, person) ? lacing.holdOf(now, p, person, 0) : NONE;
            if (holds > most) {
                most = holds;
                bestYet = p;
            }
        }
        return bestYet;
    }

    public int loose() {
        int bits = 0;
        for (int p = 0; p < street.persons; p++) {
            bits |= now.isLoose(p) ? 1 << p : 0;
        }
        return bits;
    }

    public int kin(int person) throws NoSuchElementException {
        requirePerson(person);
        int bits = 1 << person;
        // a way by friends passes each PERSON once at most, so it is found within so many rounds
        for (int i = 0; i < street.persons; i++) {
            bits |= street.friendsOf(bits);
        }
        return bits;
    }

    // ---- who is in which day ----

    public int slowest(int what) throws IllegalArgumentException {
        require(isBit(what));
        int slowestYet = NONE;
        int most = 0;
        for (int p = 0; p < street.persons; p++) {
            if (now.behindOf(p) > most) {
                slowestYet = p;
                most = now.behindOf(p);
            }
        }
        return what == 0 || slowestYet == NONE ? slowestYet : most;
    }

    public int within(int day) throws IllegalArgumentException {
        require(day >= 0 && day <= LAST_TOLD_DAY);
        return now.bitsInDay(street.persons, day);
    }

    public int days() {
        int unlike = 0;
        for (int p = 0; p < street.persons; p++) {
            unlike += now.bitsInDay(p, now.day[p]) == 0 ? 1 : 0;
        }
        return unlike;
    }

    public int gap(int person, int other) throws NoSuchElementException {
        requirePerson(person);
        requirePerson(other);
        return now.day[person] - now.day[other];
    }

    public int mates(int person) throws NoSuchElementException {
        requirePerson(person);
        return now.bitsInDay(street.persons, now.day[person]) & ~(1 << person);
    }

    public int fits(int what) throws IllegalArgumentException {
        require(isBit(what));
        lines.weigh(now);
        return what == 0 ? lines.rightPairs : lines.firstRight;
    }

    public int look(int what) throws IllegalArgumentException {
        require(isBit(what));
        lines.weigh(now);
        int asked = NONE;
        int fewest = NONE;
        for (int p = 0; p < street.persons; p++) {
            int left = lines.hasLine(p) ? NONE : lines.mostLeft(now, p);
            if (left != NONE && (asked == NONE || left < fewest)) {
                asked = p;
                fewest = left;
            }
        }
        return what == 0 ? asked : fewest;
    }

    // ---- soldier and step, dry days, string ----

    public int soldier(int v, int w, int what) throws IllegalArgumentException {
        require(v >= 0 && v <= 99 && w >= 0 && w <= 99 && what >= 0 && what <= 2);
        int rests = 0;
        int first = NONE;
        int together = 0;
        for (int way = 0; way < 4; way++) {
            int one = way >> 1;
            int other = way & 1;
            if (isRest(one, other, v, w)) {
                if (rests == 0) {
                    first = 10 * one + other;
                    together = soldierHas(one, other, v, w) + soldierHas(other, one, v, w);
                }
                rests++;
            }
        }
        return what == 0 ? rests : what == 1 ? first : together;
    }

    private static boolean isRest(int one, int other, int v, int w) {
        return soldierHas(1 - one, other, v, w) <= soldierHas(one, other, v, w)
            && soldierHas(1 - other, one, v, w) <= soldierHas(other, one, v, w);
    }

    /** What one has who does mine (0 steps, 1 stands), the other one doing theirs. */
    private static int soldierHas(int mine, int theirs, int v, int w) {
        if (mine == theirs) {
            return mine == 0 ? -w : w;
        }
        return mine == 0 ? v : 0;
    }

    public long dry(int n, int k, int q, int part) throws IllegalArgumentException {
        require(n >= 0 && n <= 12 && k >= 0 && k <= 13 && q >= 0 && q <= 16 && isBit(part));
        long above = 0;
        long below = power(16, n);
        long choices = 1;
        for (int i = 0; i <= n; i++) {
            if (i >= k) {
                above += choices * power(16 - q, i) * power(q, n - i);
            }
            choices = choices * (n - i) / (i + 1);
        }
        // below is a power of 2, so halving alone leads to least terms
        for (int i = 0; i < 4 * n && (above & 1) == 0 && (below & 1) == 0; i++) {
            above >>= 1;
            below >>= 1;
        }
        return part == 0 ? above : below;
    }

    private static long power(int base, int times) {
        long product = 1;
        for (int i = 0; i < times; i++) {
            product *= base;
        }
        return product;
    }

    public int share(int person, int persons, int n)
            throws NoSuchElementException, IllegalArgumentException {
        requirePerson(person);
        requireBits(persons);
        require(n >= 0 && n <= 9999);
        if ((persons & 1 << person) == 0) {
            return 0;
        }
        // nobody is BEHIND by more than LAST_DAY: a bound that great gives all
        int bound = 0;
        int above = LAST_DAY + 1;
        for (int i = 0; i < LAST_DAY && above - bound > 1; i++) {
            int half = (bound + above) / 2;
            if (givenBy(persons, half) <= n) {
                bound = half;
            } else {
                above = half;
            }
        }
        return Math.min(now.behindOf(person), bound);
    }

    private int givenBy(int persons, int bound) {
        int given = 0;
        for (int p = 0; p < street.persons; p++) {
            given += (persons & 1 << p) != 0 ? Math.min(now.behindOf(p), bound) : 0;
        }
        return given;
    }

    // ---- weeks ----

    public int week(int seed, int days, int q, int what) throws IllegalArgumentException {
        require(isWeek(days, q) && what >= 0 && what <= 3);
        lacing.passWeek(now, trial, seed, days, q);
        switch (what) {
            case 0: return trial.behindTogether(street.persons);
            case 1: return trial.tiedBits(street.persons, 1);
            case 2: return trial.slipsTogether(street.persons) - now.slipsTogether(street.persons);
            default: return trial.ties - now.ties;
        }
    }

    public int span(int seed, int many, int days, int q, int what, int person)
            throws IllegalArgumentException {
        require(isWeek(days, q) && many >= 1 && many <= 20 && what >= 0 && what <= 2);
        require(isPerson(person));
        int least = BEYOND_ALL;
        int most = 0;
        int today = 0;
        for (int i = 0; i < many; i++) {
            lacing.passWeek(now, trial, seed + i, days, q);
            least = Math.min(least, trial.behindTogether(street.persons));
            most = Math.max(most, trial.behindTogether(street.persons));
            today += trial.behindOf(person) == 0 ? 1 : 0;
        }
        return what == 0 ? least : what == 1 ? most : today;
    }

    private static boolean isWeek(int days, int q) {
        return days >= 1 && days <= 96 && q >= 0 && q <= 16;
    }

    // ---- images and counts ----

    public int image() {
        if (history.images == MOST_IMAGES) {
            return NONE;
        }
        history.keepImage(now);
        return history.images;
    }

    public int restore() {
        if (history.images == 0) {
            return NONE;
        }
        history.takeImageBack(now);
        refusedSteps = 0;
        return history.images;
    }

    public int status(int what) {
        return what == 0 ? unknownPersons : what == 1 ? wrongArguments : NONE;
    }

    public int count(int what) {
        switch (what) {
            case 0: return history.images;
            case 1: return reader.length;
            case 2: return history.works;
            default: return NONE;
        }
    }

    // ---- refusals ----

    private void require(boolean right) {
        if (!right) {
            wrongArguments++;
            throw new IllegalArgumentException("an argument is not among those the document names");
        }
    }

    private void requirePerson(int person) {
        if (!isPerson(person)) {
            unknownPersons++;
            throw new NoSuchElementException("no such person");
        }
    }

    private void requireBits(int persons) {
        require(persons >= 0 && persons < 1 << street.persons);
    }

    private boolean isPerson(int person) {
        return person >= 0 && person < street.persons;
    }

    private static boolean isBit(int value) {
        return value == 0 || value == 1;
    }

    /** The TAPE, and the tokens of the text that is read from it, with the text's first FAULT. */
    private static final class Reader {
        static final int END = 0;
        static final int NUMBER = 1;
        static final int WORD = 2;
        static final int SIGN = 3;
        static final int CANT_STAND = 1;
        static final int NONE_SUCH = 2;
        static final int TOO_MANY = 3;
        /** Above every number that a text may hold; digits behind one so great are passed, lest it wraps. */
        private static final int GREAT = 100000;

        private final byte[] bytes = new byte[TAPE_BYTES];
        int length;
        private int end;
        private int next;
        int kind;
        int value;
        private int at;
        int fault;
        int place = NONE;

        boolean hasRoom() {
            return length + 20 <= bytes.length;
        }

        void add(int four) {
            for (int shift = 24; shift >= 0 && length < bytes.length; shift -= 8) {
                bytes[length] = (byte) (four >> shift);
                length++;
            }
        }

        void empty() {
            length = 0;
        }

        void open(int n) {
            end = n >= 0 && n <= bytes.length ? n : 0;
            next = 0;
            fault = 0;
            place = NONE;
            advance();
        }

        void advance() {
            while (next < end && bytes[next] == ' ') {
                next++;
            }
            at = next;
            if (next >= end) {
                kind = END;
            } else if (bytes[next] >= '0' && bytes[next] <= '9') {
                kind = NUMBER;
                for (value = 0; next < end && bytes[next] >= '0' && bytes[next] <= '9'; next++) {
                    value = value >= GREAT ? GREAT : 10 * value + bytes[next] - '0';
                }
            } else if (bytes[next] >= 'a' && bytes[next] <= 'z') {
                kind = WORD;
                while (next < end && bytes[next] >= 'a' && bytes[next] <= 'z') {
                    next++;
                }
            } else {
                kind = SIGN;
                value = bytes[next];
                next++;
            }
        }

        boolean isWord(String word) {
            if (kind != WORD || next - at != word.length()) {
                return false;
            }
            for (int i = 0; i < word.length() && at + i < end; i++) {
                if (bytes[at + i] != word.charAt(i)) {
                    return false;
                }
            }
            return true;
        }

        boolean isSign(char sign) {
            return kind == SIGN && value == sign;
        }

        boolean isNumber(int number) {
            return kind == NUMBER && value == number;
        }

        /** Reads a number of 0 to most; NONE with a FAULT. */
        int number(int most) {
            if (kind != NUMBER) {
                return failed(CANT_STAND);
            }
            if (value > most) {
                return failed(NONE_SUCH);
            }
            int number = value;
            advance();
            return number;
        }

        boolean passSign(char sign) {
            if (!isSign(sign)) {
                failed(CANT_STAND);
                return false;
            }
            advance();
            return true;
        }

        boolean passEnd() {
            if (kind != END) {
                failed(CANT_STAND);
            }
            return kind == END;
        }

        int failed(int why) {
            if (fault == 0) {
                fault = why;
                place = at;
            }
            return NONE;
        }
    }

    /** Who lives where, and who are friends. */
    private static final class Street {
        int persons;
        int string = 20;
        final int[] fingers = new int[MOST_PERSONS];
        final int[] haste = new int[MOST_PERSONS];
        final int[] x = new int[MOST_PERSONS];
        final int[] y = new int[MOST_PERSONS];
        final int[] friends = new int[MOST_PERSONS];

        void copyFrom(Street other) {
            persons = other.persons;
            string = other.string;
            System.arraycopy(other.fingers, 0, fingers, 0, MOST_PERSONS);
            System.arraycopy(other.haste, 0, haste, 0, MOST_PERSONS);
            System.arraycopy(other.x, 0, x, 0, MOST_PERSONS);
            System.arraycopy(other.y, 0, y, 0, MOST_PERSONS);
            System.arraycopy(other.friends, 0, friends, 0, MOST_PERSONS);
        }

        void readFrom(Reader reader) {
            persons = 0;
            string = 20;
            for (int clauses = 0; clauses < TAPE_BYTES && reader.kind == Reader.WORD; clauses++) {
                if (!readClause(reader, clauses >= MOST_CLAUSES)) {
                    return;
                }
            }
            reader.passEnd();
        }

        private boolean readClause(Reader reader, boolean tooMany) {
            boolean isPerson = reader.isWord("person");
            boolean isFriend = reader.isWord("friend");
            if (!isPerson && !isFriend && !reader.isWord("string")) {
                reader.failed(Reader.CANT_STAND);
                return false;
            }
            if (tooMany || isPerson && persons >= MOST_PERSONS) {
                reader.failed(Reader.TOO_MANY);
                return false;
            }
            reader.advance();
            boolean right = isPerson ? readPerson(reader) : isFriend ? readFriend(reader) : readString(reader);
            return right && reader.passSign(';');
        }

        private boolean readPerson(Reader reader) {
            int p = persons;
            if (p >= MOST_PERSONS) {
                return false;
            }
            fingers[p] = reader.number(9);
            haste[p] = fingers[p] == NONE ? NONE : reader.number(9);
            x[p] = haste[p] == NONE ? NONE : reader.number(20);
            y[p] = x[p] == NONE ? NONE : reader.number(20);
            friends[p] = 0;
            persons++;
            return y[p] != NONE;
        }

        private boolean readFriend(Reader reader) {
            int a = reader.number(persons - 1);
            if (a == NONE) {
                return false;
            }
            if (reader.isNumber(a)) {
                reader.failed(Reader.NONE_SUCH);
                return false;
            }
            int b = reader.number(persons - 1);
            if (b == NONE) {
                return false;
            }
            friends[a] |= 1 << b;
            friends[b] |= 1 << a;
            return true;
        }

        private boolean readString(Reader reader) {
            int n = reader.number(99);
            string = n;
            return n != NONE;
        }

        int wayBetween(int a, int b) {
            return Math.abs(x[a] - x[b]) + Math.abs(y[a] - y[b]);
        }

        int waysTogether(int from) {
            int ways = 0;
            for (int p = 0; p < persons; p++) {
                ways += wayBetween(from, p);
            }
            return ways;
        }

        int friendsOf(int bits) {
            int all = 0;
            for (int p = 0; p < persons; p++) {
                all |= (bits & 1 << p) != 0 ? friends[p] : 0;
            }
            return all;
        }

        /** In row stands, for each set of PERSONS and the last one of it, the least way through them. */
        int leastRound(int from, int told, int[] row) {
            int others = told & ~(1 << from);
            for (int set = 1; set <= others && (set + 1) * MOST_PERSONS <= row.length; set++) {
                for (int last = 0; last < persons && (set & ~others) == 0; last++) {
                    if ((set & 1 << last) != 0) {
                        row[set * MOST_PERSONS + last] = leastWayTo(from, set, last, row);
                    }
                }
            }
            return others == 0 ? 0 : leastOf(others, NONE, row);
        }

        private int leastWayTo(int from, int set, int last, int[] row) {
            int before = set & ~(1 << last);
            return before == 0 ? wayBetween(from, last) : leastOf(before, last, row);
        }

        /** The least way through a set, and on to a PERSON (NONE: no further). */
        private int leastOf(int set, int on, int[] row) {
            int least = BEYOND_ALL;
            for (int p = 0; p < persons; p++) {
                if ((set & 1 << p) != 0) {
                    int further = on == NONE ? 0 : wayBetween(p, on);
                    least = Math.min(least, row[set * MOST_PERSONS + p] + further);
                }
            }
            return least;
        }
    }

    /**
     * The LAW as a row of cells, each behind what it works on: numbers as they are, values from
     * VALUE on, signs from SIGN on. A cell comes from at least one byte of the text.
     */
    private static final class Law {
        static final int FINGERS = 0;
        static final int HASTE = 1;
        static final int BEHIND = 2;
        static final int DOUBLE = 3;
        static final int FRIEND = 4;
        static final int SELF = 5;
        static final int SLIPS = 6;
        static final int DAY = 7;
        private static final int GREATEST = 999;
        private static final int VALUE = 1000;
        private static final int SIGN = 2000;
        private static final int PLUS = 2001;
        private static final int LESS = 2002;
        private static final int TIMES = 2003;
        private static final int BY = 2004;
        private static final int LEFT_OVER = 2005;
        private static final int LEAST = 2006;
        private static final int MOST = 2007;

        private final int[] cells = new int[LAW_BYTES];
        private int size;
        private final int[] nextCells = new int[LAW_BYTES];
        private int nextSize;
        private final int[] values = new int[8];
        private final int[] stack = new int[LAW_BYTES];

        /** Without cells there is no LAW told. */
        void forget() {
            size = 0;
        }

        void put(int which, int value) {
            if (which >= 0 && which < values.length) {
                values[which] = value;
            }
        }

        /** HOLD by the values that were put. */
        int worth() {
            int top = 0;
            for (int i = 0; i < size && i < cells.length; i++) {
                int cell = cells[i];
                if (cell > SIGN) {
                    if (top >= 2) {
                        top--;
                        stack[top - 1] = joined(cell, stack[top - 1], stack[top]);
                    }
                } else if (top < stack.length) {
                    stack[top] = cell >= VALUE ? values[cell - VALUE & 7] : cell;
                    top++;
                }
            }
            int worth = top > 0 ? stack[0] : worthWithoutLaw();
            return worth < 0 ? 0 : worth > 99 ? 99 : worth;
        }

        private int worthWithoutLaw() {
            return values[FINGERS] * 5 + values[DOUBLE] * 20 - values[HASTE] * 2 - values[BEHIND];
        }

        private static int joined(int sign, int left, int right) {
            switch (sign) {
                case PLUS: return left + right;
                case LESS: return left - right;
                case TIMES: return left * right;
                case BY: return right == 0 ? 0 : left / right;
                case LEFT_OVER: return right == 0 ? 0 : left % right;
                case LEAST: return Math.min(left, right);
                default: return Math.max(left, right);
            }
        }

        /** The LAW stays as it was, if the text has a FAULT. */
        void readFrom(Reader reader) {
            nextSize = 0;
            if (readSum(reader, 0) && reader.passEnd()) {
                System.arraycopy(nextCells, 0, cells, 0, LAW_BYTES);
                size = nextSize;
            }
        }

        private void addCell(int cell) {
            if (nextSize < nextCells.length) {
                nextCells[nextSize] = cell;
                nextSize++;
            }
        }

        private boolean readSum(Reader reader, int open) {
            boolean right = readProduct(reader, open);
            for (int i = 0; i < LAW_BYTES && right; i++) {
                int sign = reader.isSign('+') ? PLUS : reader.isSign('-') ? LESS : NONE;
                if (sign == NONE) {
                    return true;
                }
                reader.advance();
                right = readProduct(reader, open);
                addCell(sign);
            }
            return right;
        }

        private boolean readProduct(Reader reader, int open) {
            boolean right = readUnit(reader, open);
            for (int i = 0; i < LAW_BYTES && right; i++) {
                int sign = reader.isSign('*') ? TIMES : reader.isSign('/') ? BY
                    : reader.isSign('%') ? LEFT_OVER : NONE;
                if (sign == NONE) {
                    return true;
                }
                reader.advance();
                right = readUnit(reader, open);
                addCell(sign);
            }
            return right;
        }

        private boolean readUnit(Reader reader, int open) {
            int value = valueOf(reader);
            if (value != NONE) {
                addCell(VALUE + value);
                reader.advance();
                return true;
            }
            if (reader.isSign('(') || reader.isWord("least") || reader.isWord("most")) {
                return readOpen(reader, open);
            }
            int number = reader.number(GREATEST);
            addCell(number);
            return number != NONE;
        }

        private boolean readOpen(Reader reader, int open) {
            if (open >= MOST_OPEN) {
                reader.failed(Reader.TOO_MANY);
                return false;
            }
            boolean isLeast = reader.isWord("least");
            boolean isPair = isLeast || reader.isWord("most");
            reader.advance();
            if (!isPair) {
                return readSum(reader, open + 1) && reader.passSign(')');
            }
            boolean right = reader.passSign('[') && readSum(reader, open + 1)
                && reader.passSign(',') && readSum(reader, open + 1) && reader.passSign(']');
            addCell(isLeast ? LEAST : MOST);
            return right;
        }

        private static int valueOf(Reader reader) {
            return reader.isWord("fingers") ? FINGERS
                : reader.isWord("haste") ? HASTE
                : reader.isWord("behind") ? BEHIND
                : reader.isWord("double") ? DOUBLE
                : reader.isWord("friend") ? FRIEND
                : reader.isWord("self") ? SELF
                : reader.isWord("slips") ? SLIPS
                : reader.isWord("day") ? DAY : NONE;
        }
    }

    /** All that WORK changes. */
    private static final class State {
        static final int ROW = 3 + 4 * MOST_PERSONS;

        int today;
        int ties;
        int cut;
        final int[] day = new int[MOST_PERSONS];
        /** 0 not TIED, 1 singly, 2 doubly. */
        final int[] knot = new int[MOST_PERSONS];
        final int[] slips = new int[MOST_PERSONS];
        final int[] by = new int[MOST_PERSONS];

        void begin() {
            today = 0;
            ties = 0;
            cut = 0;
            for (int p = 0; p < MOST_PERSONS; p++) {
                day[p] = 0;
                knot[p] = 0;
                slips[p] = 0;
                by[p] = NONE;
            }
        }

        void copyFrom(State other) {
            today = other.today;
            ties = other.ties;
            cut = other.cut;
            for (int p = 0; p < MOST_PERSONS; p++) {
                day[p] = other.day[p];
                knot[p] = other.knot[p];
                slips[p] = other.slips[p];
                by[p] = other.by[p];
            }
        }

        void writeTo(int[] rows, int which) {
            int from = which * ROW;
            if (which < 0 || from + ROW > rows.length) {
                return;
            }
            rows[from] = today;
            rows[from + 1] = ties;
            rows[from + 2] = cut;
            for (int p = 0; p < MOST_PERSONS; p++) {
                rows[from + 3 + 4 * p] = day[p];
                rows[from + 4 + 4 * p] = knot[p];
                rows[from + 5 + 4 * p] = slips[p];
                rows[from + 6 + 4 * p] = by[p];
            }
        }

        void readFrom(int[] rows, int which) {
            int from = which * ROW;
            if (which < 0 || from + ROW > rows.length) {
                return;
            }
            today = rows[from];
            ties = rows[from + 1];
            cut = rows[from + 2];
            for (int p = 0; p < MOST_PERSONS; p++) {
                day[p] = rows[from + 3 + 4 * p];
                knot[p] = rows[from + 4 + 4 * p];
                slips[p] = rows[from + 5 + 4 * p];
                by[p] = rows[from + 6 + 4 * p];
            }
        }

        void passDay(int persons) {
            today++;
            for (int p = 0; p < persons && p < MOST_PERSONS; p++) {
                if (knot[p] == 1) {
                    knot[p] = 0;
                } else if (knot[p] == 2) {
                    day[p]++;
                }
                if (isCut(p)) {
                    day[p] = today;
                }
            }
        }

        boolean isCut(int p) {
            return (cut & 1 << p) != 0;
        }

        boolean isLoose(int p) {
            return knot[p] == 0 && !isCut(p);
        }

        boolean mayTie(int a, int b) {
            return isLoose(b) && (a == b || knot[a] != 0);
        }

        int behindOf(int p) {
            return today - day[p];
        }

        int behindTogether(int persons) {
            int together = 0;
            for (int p = 0; p < persons && p < MOST_PERSONS; p++) {
                together += behindOf(p);
            }
            return together;
        }

        int slipsTogether(int persons) {
            int together = 0;
            for (int p = 0; p < persons && p < MOST_PERSONS; p++) {
                together += slips[p];
            }
            return together;
        }

        int behindBits(int persons) {
            int bits = 0;
            for (int p = 0; p < persons && p < MOST_PERSONS; p++) {
                bits |= behindOf(p) > 0 ? 1 << p : 0;
            }
            return bits;
        }

        int tiedBits(int persons, int leastKnot) {
            int bits = 0;
            for (int p = 0; p < persons && p < MOST_PERSONS; p++) {
                bits |= knot[p] >= leastKnot ? 1 << p : 0;
            }
            return bits;
        }

        int bitsInDay(int persons, int which) {
            int bits = 0;
            for (int p = 0; p < persons && p < MOST_PERSONS; p++) {
                bits |= day[p] == which ? 1 << p : 0;
            }
            return bits;
        }
    }

    /** What the STREET and the LAW together make of a lace that is tied, and WEEKS by SEEDS. */
    private static final class Lacing {
        private final Street street;
        private final Law law;
        private int seed;

        Lacing(Street street, Law law) {
            this.street = street;
            this.law = law;
        }

        int holdOf(State state, int a, int b, int twice) {
            law.put(Law.FINGERS, street.fingers[a]);
            law.put(Law.HASTE, street.haste[b]);
            law.put(Law.BEHIND, state.behindOf(b));
            law.put(Law.DOUBLE, twice);
            law.put(Law.FRIEND, street.friends[a] >> b & 1);
            law.put(Law.SELF, a == b ? 1 : 0);
            law.put(Law.SLIPS, state.slips[b]);
            law.put(Law.DAY, state.today);
            return law.worth();
        }

        /** Whether tie could be done so that the lace holds. */
        boolean wouldTie(State state, int a, int b) {
            return state.mayTie(a, b) && holdOf(state, a, b, 0) >= HOLDS_FROM;
        }

        int helperBits(State state, int b) {
            int bits = 0;
            for (int a = 0; a < street.persons; a++) {
                bits |= wouldTie(state, a, b) ? 1 << a : 0;
            }
            return bits;
        }

        /** False, with nothing changed: it is REFUSED. */
        boolean tieLace(State state, int a, int b, int twice) {
            if (!state.mayTie(a, b)) {
                return false;
            }
            if (holdOf(state, a, b, twice) < HOLDS_FROM) {
                state.slips[b]++;
                return true;
            }
            state.day[b] = dayBy(state, a, b);
            state.knot[b] = 1 + twice;
            state.by[b] = a;
            state.ties++;
            return true;
        }

        static int dayBy(State state, int a, int b) {
            return a == b ? state.today : state.day[a];
        }

        /** Leaves in state what from is behind a WEEK. */
        void passWeek(State from, State state, int firstSeed, int days, int q) {
            state.copyFrom(from);
            seed = firstSeed;
            for (int i = 0; i < days; i++) {
                for (int j = 0; j < street.persons; j++) {
                    int a = drawnBy(street.persons);
                    int b = drawnBy(street.persons);
                    tieLace(state, a, b, drawnBy(16) < q ? 1 : 0);
                }
                state.passDay(street.persons);
            }
        }

        private int drawnBy(int many) {
            seed = seed * 1103515245 + 12345;
            return many > 0 ? (seed >>> 16 & 32767) % many : 0;
        }
    }

    /** A WORK as rows of STEPS; what again repeats stands behind it, up to the row that it names. */
    private static final class Work {
        private static final int TIE = 0;
        private static final int DOUBLE = 1;
        private static final int CUT = 2;
        private static final int MEND = 3;
        private static final int UNDO = 4;
        private static final int DAY = 5;
        private static final int AGAIN = 6;
        private static final int MOST_TIMES = 60;
        private static final int MOST_BEGUN = 200;
        /** The shortest STEP, "day;", has four bytes. */
        private static final int MOST_STEPS = WORK_BYTES / 4 + 1;

        private final Lacing lacing;
        private final int[] kind = new int[MOST_STEPS];
        private final int[] first = new int[MOST_STEPS];
        private final int[] second = new int[MOST_STEPS];
        int size;
        private int persons;
        private State state;
        private int begun;
        int done;
        int refused;

        Work(Lacing lacing) {
            this.lacing = lacing;
        }

        void readFrom(Reader reader, int toldPersons) {
            size = 0;
            persons = toldPersons;
            if (readSteps(reader, 0)) {
                reader.passEnd();
            }
        }

        private boolean readSteps(Reader reader, int open) {
            for (int i = 0; i < WORK_BYTES && reader.kind == Reader.WORD; i++) {
                if (!readStep(reader, open)) {
                    return false;
                }
            }
            return true;
        }

        private boolean readStep(Reader reader, int open) {
            int step = kindOf(reader);
            int row = size;
            if (step == NONE || row >= MOST_STEPS) {
                reader.failed(Reader.CANT_STAND);
                return false;
            }
            if (step == AGAIN && open >= MOST_OPEN) {
                reader.failed(Reader.TOO_MANY);
                return false;
            }
            reader.advance();
            size++;
            kind[row] = step;
            first[row] = step == DAY ? 0 : reader.number(step == AGAIN ? MOST_TIMES : persons - 1);
            if (first[row] == NONE) {
                return false;
            }
            second[row] = step == TIE || step == DOUBLE ? reader.number(persons - 1) : 0;
            if (second[row] == NONE || step == AGAIN && !readRepeated(reader, open, row)) {
                return false;
            }
            return reader.passSign(';');
        }

        private boolean readRepeated(Reader reader, int open, int row) {
            boolean right = reader.passSign('[') && readSteps(reader, open + 1) && reader.passSign(']');
            second[row] = size;
            return right;
        }

        private static int kindOf(Reader reader) {
            return reader.isWord("tie") ? TIE
                : reader.isWord("double") ? DOUBLE
                : reader.isWord("cut") ? CUT
                : reader.isWord("mend") ? MEND
                : reader.isWord("undo") ? UNDO
                : reader.isWord("day") ? DAY
                : reader.isWord("again") ? AGAIN : NONE;
        }

        void begin(State changed) {
            state = changed;
            begun = 0;
            done = 0;
            refused = 0;
        }

        void runSteps(int from, int to, int open) {
            if (open > MOST_OPEN || state == null) {
                return;
            }
            int row = from;
            while (row < to && row < MOST_STEPS && begun < MOST_BEGUN) {
                begun++;
                if (kind[row] != AGAIN) {
                    countStep(runStep(state, kind[row], first[row], second[row]));
                    row++;
                    continue;
                }
                for (int i = 0; i < first[row] && begun < MOST_BEGUN; i++) {
                    runSteps(row + 1, second[row], open + 1);
                }
                row = Math.max(row + 1, second[row]);
            }
        }

        private void countStep(boolean wasDone) {
            if (wasDone) {
                done++;
            } else {
                refused++;
            }
        }

        private boolean runStep(State on, int step, int a, int b) {
            switch (step) {
                case TIE: return lacing.tieLace(on, a, b, 0);
                case DOUBLE: return lacing.tieLace(on, a, b, 1);
                case CUT: return cutLace(on, a);
                case MEND: return mendLace(on, a);
                case UNDO: return undoLace(on, a);
                default: return endDay(on);
            }
        }

        private static boolean cutLace(State on, int a) {
            if (on.isCut(a)) {
                return false;
            }
            on.cut |= 1 << a;
            on.knot[a] = 0;
            return true;
        }

        private static boolean mendLace(State on, int a) {
            if (!on.isCut(a)) {
                return false;
            }
            on.cut &= ~(1 << a);
            return true;
        }

        private static boolean undoLace(State on, int a) {
            if (on.knot[a] == 0) {
                return false;
            }
            on.knot[a] = 0;
            return true;
        }

        private boolean endDay(State on) {
            if (on.today >= LAST_DAY) {
                return false;
            }
            on.passDay(persons);
            return true;
        }
    }

    /** The BOOK, and the pairs of PERSONS by which its lines were right. */
    private static final class Book {
        private final Street street;
        private final Lacing lacing;
        int size;
        /** By PERSON: the DAY of its line, NONE without. */
        private final int[] told = new int[MOST_PERSONS];
        private int nextSize;
        private final int[] nextTold = new int[MOST_PERSONS];
        /** By pair, A times MOST_PERSONS and B: whether it is right, and the DAY in which B is by it. */
        private final boolean[] right = new boolean[MOST_PERSONS * MOST_PERSONS];
        private final int[] dayOfTied = new int[MOST_PERSONS * MOST_PERSONS];
        int rightPairs;
        int firstRight;

        Book(Street street, Lacing lacing) {
            this.street = street;
            this.lacing = lacing;
        }

        void forget() {
            size = 0;
        }

        boolean hasLine(int p) {
            return size > 0 && told[p] != NONE;
        }

        /** The BOOK stays as it was, if the text has a FAULT. */
        void readFrom(Reader reader) {
            nextSize = 0;
            for (int p = 0; p < MOST_PERSONS; p++) {
                nextTold[p] = NONE;
            }
            for (int i = 0; i < BOOK_BYTES && reader.kind == Reader.NUMBER; i++) {
                if (!readLine(reader)) {
                    return;
                }
            }
            if (reader.passEnd()) {
                System.arraycopy(nextTold, 0, told, 0, MOST_PERSONS);
                size = nextSize;
            }
        }

        private boolean readLine(Reader reader) {
            if (isTwice(reader)) {
                reader.failed(Reader.NONE_SUCH);
                return false;
            }
            int a = reader.number(street.persons - 1);
            if (a == NONE) {
                return false;
            }
            nextTold[a] = reader.number(LAST_TOLD_DAY);
            nextSize++;
            return nextTold[a] != NONE && reader.passSign(';');
        }

        private boolean isTwice(Reader reader) {
            return reader.value >= 0 && reader.value < MOST_PERSONS && nextTold[reader.value] != NONE;
        }

        void weigh(State state) {
            rightPairs = 0;
            firstRight = NONE;
            for (int a = 0; a < street.persons; a++) {
                for (int b = 0; b < street.persons; b++) {
                    int pair = a * MOST_PERSONS + b;
                    dayOfTied[pair] = lacing.wouldTie(state, a, b) ? Lacing.dayBy(state, a, b) : state.day[b];
                    right[pair] = isRight(state, pair);
                    if (right[pair]) {
                        rightPairs++;
                        firstRight = firstRight == NONE ? 10 * a + b : firstRight;
                    }
                }
            }
        }

        private boolean isRight(State state, int pair) {
            for (int p = 0; p < street.persons; p++) {
                if (hasLine(p) && told[p] != dayBehind(state, pair, p)) {
                    return false;
                }
            }
            return true;
        }

        private int dayBehind(State state, int pair, int p) {
            return pair % MOST_PERSONS == p ? dayOfTied[pair] : state.day[p];
        }

        /** How many right pairs are left at the worst, if one knew in which DAY a PERSON was. */
        int mostLeft(State state, int p) {
            int most = left(state, p, state.today);
            for (int other = 0; other < street.persons; other++) {
                most = Math.max(most, left(state, p, state.day[other]));
            }
            return most;
        }

        private int left(State state, int p, int day) {
            int left = 0;
            for (int a = 0; a < street.persons; a++) {
                for (int b = 0; b < street.persons; b++) {
                    int pair = a * MOST_PERSONS + b;
                    left += right[pair] && dayBehind(state, pair, p) == day ? 1 : 0;
                }
            }
            return left;
        }
    }

    /** The search for KNEEL: ways are tried from the first on, so that a later one must be better. */
    private static final class Kneeling {
        private final Street street;
        private final Lacing lacing;
        private final int[] helpers = new int[MOST_PERSONS];
        private final int[] choice = new int[MOST_PERSONS];
        final int[] bestChoice = new int[MOST_PERSONS];
        int mostGiven;
        int mostDays;

        Kneeling(Street street, Lacing lacing) {
            this.street = street;
            this.lacing = lacing;
        }

        void search(State state) {
            mostGiven = NONE;
            mostDays = 0;
            for (int p = 0; p < street.persons; p++) {
                helpers[p] = lacing.helperBits(state, p);
            }
            chooseFor(state, 0, 0, 0, 0);
        }

        private void chooseFor(State state, int p, int busy, int given, int days) {
            if (given + street.persons - p < mostGiven) {
                return;
            }
            if (p >= street.persons || p >= MOST_PERSONS) {
                keepIfBetter(given, days);
                return;
            }
            for (int a = 0; a < street.persons; a++) {
                if ((helpers[p] & ~busy & 1 << a) != 0) {
                    choice[p] = a;
                    chooseFor(state, p + 1, busy | 1 << a, given + 1, days + Lacing.dayBy(state, a, p));
                }
            }
            choice[p] = NONE;
            chooseFor(state, p + 1, busy, given, days);
        }

        private void keepIfBetter(int given, int days) {
            if (given > mostGiven || given == mostGiven && days > mostDays) {
                mostGiven = given;
                mostDays = days;
                System.arraycopy(choice, 0, bestChoice, 0, MOST_PERSONS);
            }
        }
    }

    /** What undo() and restore() come back to. */
    private static final class History {
        int works;
        int images;
        private final int[] workRows = new int[MOST_WORKS * State.ROW];
        /** Of each IMAGE: the WORKS that could be undone, and behind them what was. */
        private final int[] imageRows = new int[MOST_IMAGES * (MOST_WORKS + 1) * State.ROW];
        private final int[] imageWorks = new int[MOST_IMAGES];

        void forget() {
            works = 0;
            images = 0;
        }

        boolean isFull() {
            return works >= MOST_WORKS;
        }

        void keepWork(State state) {
            if (works < MOST_WORKS) {
                state.writeTo(workRows, works);
                works++;
            }
        }

        void takeWorkBack(State state) {
            if (works > 0) {
                works--;
                state.readFrom(workRows, works);
            }
        }

        void keepImage(State state) {
            if (images < MOST_IMAGES) {
                int firstRow = images * (MOST_WORKS + 1);
                System.arraycopy(workRows, 0, imageRows, firstRow * State.ROW, MOST_WORKS * State.ROW);
                state.writeTo(imageRows, firstRow + MOST_WORKS);
                imageWorks[images] = works;
                images++;
            }
        }

        void takeImageBack(State state) {
            if (images > 0) {
                images--;
                int firstRow = images * (MOST_WORKS + 1);
                System.arraycopy(imageRows, firstRow * State.ROW, workRows, 0, MOST_WORKS * State.ROW);
                state.readFrom(imageRows, firstRow + MOST_WORKS);
                works = imageWorks[images];
            }
        }
    }
}
