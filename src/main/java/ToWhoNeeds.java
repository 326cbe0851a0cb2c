/** Letters go to who needs them most; ../shared/DOC.md says what each call promises. */
public final class ToWhoNeeds {
    private static final int GOODS = 4;
    private static final int MOST_NEED = 30;
    private static final int MOST_AMOUNT = 5;
    private static final int MOST_PERSONS = 6;
    private static final int MOST_WRITERS = 4;
    private static final int MOST_SIGNS = 64;
    private static final int MOST_TOLD = 5;
    private static final int MOST_GOINGS = 6;
    private static final int MOST_ROW = 8;
    private static final int MOST_ERR = 50;
    private static final int MOST_DAYS = 30;
    private static final int MOST_POSTED_FORTY = 40;
    private static final int MOST_ROUNDS = 10;
    private static final int HUNDRED = 100;

    /** What a call answers when it looks for something and there is none. */
    private static final int NONE = -9;

    private static final int NOBODY = -1;
    private static final int OTHER = -2;
    private static final int STATE = -3;
    private static final int BELOW = -4;
    private static final int ROOM = -6;

    /** Above every COST that LETTERS beforehand can have. */
    private static final int DEAREST = 100;

    /** The signs of the KINDS, each at its KIND's number. */
    private static final String KINDS = "pamth";
    private static final int AIM = 1;
    private static final int ALL = 2;
    private static final int TEST = 3;
    private static final int AHEAD = 4;

    /** What one of each GOOD adds to a LETTER's number. */
    private static final int[] DIGIT = {1, 10, 100, 1000};

    /** The LETTERS of TWO by numbers. */
    private static final int[] TWO = {
        0, 1, 2, 10, 11, 12, 20, 21, 22,
        100, 101, 102, 110, 111, 112, 120, 121, 122,
        200, 201, 202, 210, 211, 212, 220, 221, 222,
        1000, 1001, 1002, 1010, 1011, 1012, 1020, 1021, 1022,
        1100, 1101, 1102, 1110, 1111, 1112, 1120, 1121, 1122,
        1200, 1201, 1202, 1210, 1211, 1212, 1220, 1221, 1222,
        2000, 2001, 2002, 2010, 2011, 2012, 2020, 2021, 2022,
        2100, 2101, 2102, 2110, 2111, 2112, 2120, 2121, 2122,
        2200, 2201, 2202, 2210, 2211, 2212, 2220, 2221, 2222};

    private final State state;
    private final State kept;
    private final Reader reader;
    private final Mind mind;
    private final Law[] kindsOfLaw;
    private final Numbers row;
    private final int[] refused;
    private boolean isKept;

    public ToWhoNeeds() {
        state = new State();
        kept = new State();
        reader = new Reader();
        mind = new Mind();
        kindsOfLaw = new Law[] {new Sum(0), new Met(), new Most(), new Second(), new ReadOn()};
        row = new Numbers(MOST_ROW);
        refused = new int[1 - ROOM];
    }

    public int letter(int c) {
        if (c < 0) {
            return refuse(BELOW);
        }
        if (c > 255 || reader.text.isFull()) {
            return refuse(ROOM);
        }
        reader.text.add(c);
        return reader.text.size;
    }

    public int parish() {
        int answer = reader.read(state);
        reader.text.clear();
        return answer;
    }

    public int need(int person, int good) {
        if (!isPlace(person, good)) {
            return refuse(NOBODY);
        }
        return state.people.lack(person, good);
    }

    public int writer(int writer, int what) {
        if (!state.isWriter(writer)) {
            return refuse(NOBODY);
        }
        switch (what) {
            case 0:
                return state.kinds.get(writer);
            case 1:
                return state.aims.get(writer);
            case 2:
                return state.letters.get(writer);
            default:
                return refuse(OTHER);
        }
    }

    public int law(int v) {
        if (v < 0 || v >= kindsOfLaw.length) {
            return refuse(OTHER);
        }
        int was = state.law;
        state.law = v;
        return was;
    }

    public int err(int hundredths) {
        if (hundredths < 0) {
            return refuse(BELOW);
        }
        if (hundredths > MOST_ERR) {
            return refuse(ROOM);
        }
        int was = state.err;
        state.err = hundredths;
        return was;
    }

    public int score(int person, int letter) {
        if (!state.people.has(person) || !isLetter(letter)) {
            return refuse(NOBODY);
        }
        return lawNow().scoreOf(state.people, person, letter);
    }

    public int goes(int letter) {
        if (!isLetter(letter)) {
            return refuse(NOBODY);
        }
        return lawNow().receiver(state.people, letter);
    }

    public int post(int letter) {
        if (!isLetter(letter)) {
            return refuse(NOBODY);
        }
        state.posted++;
        return lawNow().deliver(state.people, letter);
    }

    public int day() {
        state.people.grow();
        state.day++;
        return state.people.total();
    }

    public int allNeed() {
        return state.people.total();
    }

    public int can(int person) {
        if (!state.people.has(person)) {
            return refuse(NOBODY);
        }
        return mind.cheapestTo(state.people, lawNow(), person, NONE);
    }

    public int who() {
        return mind.reached(state.people, lawNow());
    }

    public int never(int person) {
        if (!state.people.has(person)) {
            return refuse(NOBODY);
        }
        boolean isReached = mind.isReached(state.people, lawNow(), person);
        return isReached ? 0 : mind.reached(state.people, lawNow());
    }

    public int before(int person, int what) {
        if (!state.people.has(person)) {
            return refuse(NOBODY);
        }
        if (what != 0 && what != 1) {
            return refuse(OTHER);
        }
        if (mind.isReached(state.people, lawNow(), person)) {
            return 0;
        }
        int cost = mind.costOfOneBefore(state.people, lawNow(), person);
        if (cost < DEAREST) {
            return what == 0 ? 1 : cost;
        }
        cost = mind.costOfTwoBefore(state.people, lawNow(), person);
        if (cost < DEAREST) {
            return what == 0 ? 2 : cost;
        }
        return NONE;
    }

    public int order(int letter) {
        if (!isLetter(letter)) {
            return refuse(NOBODY);
        }
        if (state.told.isFull()) {
            return refuse(ROOM);
        }
        state.told.add(letter);
        return state.told.size;
    }

    public int forget() {
        int were = state.told.size;
        state.told.clear();
        return were;
    }

    public int met(int n, int order) {
        if (n < 0) {
            return refuse(BELOW);
        }
        if (n > MOST_TOLD) {
            return refuse(ROOM);
        }
        if (!mind.takeLine(n, order, state.told.size)) {
            return refuse(NOBODY);
        }
        return mind.lessByLine(state.people, lawNow(), state.told);
    }

    public int best(int i) {
        if (i < -1) {
            return refuse(BELOW);
        }
        int less = mind.findBestLine(state.people, lawNow(), state.told);
        if (i == -1) {
            return less;
        }
        return i < state.told.size ? mind.bestLine.get(i) : NONE;
    }

    public int greedy() {
        return mind.lessByGreed(state.people, lawNow(), state.told);
    }

    public int forty(int letter, int n) {
        if (!isLetter(letter)) {
            return refuse(NOBODY);
        }
        if (n < 0) {
            return refuse(BELOW);
        }
        if (n > state.people.size) {
            return refuse(ROOM);
        }
        return mind.timesTillHad(state.people, lawNow(), letter, n);
    }

    public int going(int letter, int person) {
        boolean toNone = person == -1;
        if (!isLetter(letter) || !toNone && !state.people.has(person)) {
            return refuse(NOBODY);
        }
        if (state.wentLetter.isFull()) {
            return refuse(ROOM);
        }
        state.wentLetter.add(letter);
        state.wentTo.add(toNone ? NONE : person);
        return state.wentLetter.size;
    }

    public int think(int person, int good, int what) {
        if (!isPlace(person, good)) {
            return refuse(NOBODY);
        }
        if (what < 0 || what > 2) {
            return refuse(OTHER);
        }
        int fitting = mind.fittingValues(state, lawNow(), person, good);
        if (what == 2) {
            return Integer.bitCount(fitting);
        }
        return what == 0 ? leastOf(fitting) : greatestOf(fitting);
    }

    public int tell(int person, int good) {
        if (!isPlace(person, good)) {
            return refuse(NOBODY);
        }
        int fitting = mind.fittingValues(state, lawNow(), person, good);
        if (fitting == 0) {
            return refuse(STATE);
        }
        return mind.mostTelling(state.people, lawNow(), person, good, fitting);
    }

    public int laws(int person) {
        if (!state.people.has(person)) {
            return refuse(NOBODY);
        }
        int bits = 0;
        for (int v = 0; v < kindsOfLaw.length; v++) {
            if (mind.isReached(state.people, kindsOfLaw[v], person)) {
                bits |= 1 << v;
            }
        }
        return bits;
    }

    public int eye(int person, int letter, int part) {
        if (!state.people.has(person) || !isLetter(letter)) {
            return refuse(NOBODY);
        }
        if (part != 0 && part != 1) {
            return refuse(OTHER);
        }
        int chance = lawNow().chance(state.people, person, letter, state.err);
        return inLeastTerms(part == 0 ? chance : HUNDRED, chance);
    }

    public int surest(int person) {
        if (!state.people.has(person)) {
            return refuse(NOBODY);
        }
        return mind.surestTo(state.people, lawNow(), person, state.err);
    }

    public int morning() {
        int luck = 0;
        for (int writer = 0; writer < state.kinds.size; writer++) {
            int letter = mind.written(state, lawNow(), writer);
            int first = lawNow().deliver(state.people, letter);
            state.posted++;
            if (first == state.aims.get(writer)) {
                luck++;
            }
        }
        return luck;
    }

    public int writes(int writer) {
        if (!state.isWriter(writer)) {
            return refuse(NOBODY);
        }
        return mind.written(state, lawNow(), writer);
    }

    public int both(int one, int other) {
        if (!state.isWriter(one) || !state.isWriter(other) || one == other) {
            return refuse(NOBODY);
        }
        return mind.roundsOfTwo(state, lawNow(), one, other);
    }

    public int year(int n, int z) {
        if (n < 1) {
            return refuse(BELOW);
        }
        if (n > MOST_DAYS) {
            return refuse(ROOM);
        }
        return mind.needBehindDays(state.people, lawNow(), n, z);
    }

    public int row(int v) {
        if (v < 0) {
            return refuse(BELOW);
        }
        if (v > 9 || row.isFull()) {
            return refuse(ROOM);
        }
        row.add(v);
        return row.size;
    }

    public int judge() {
        int answer = mind.firstNotSo(state.people, lawNow(), state.told, row);
        row.clear();
        return answer;
    }

    public int image() {
        kept.takeFrom(state);
        isKept = true;
        return state.day;
    }

    public int on() {
        if (!isKept) {
            return refuse(STATE);
        }
        state.takeFrom(kept);
        return state.day;
    }

    public int count(int what) {
        switch (what) {
            case 0:
                return state.people.size;
            case 1:
                return state.kinds.size;
            case 2:
                return state.told.size;
            case 3:
                return state.wentLetter.size;
            case 4:
                return state.day;
            case 5:
                return row.size;
            case 6:
                return reader.text.size;
            case 7:
                return state.posted;
            default:
                return what > 10 && what - 10 < refused.length ? refused[what - 10] : NONE;
        }
    }

    private int refuse(int number) {
        if (number < 0 && number >= ROOM) {
            refused[-number]++;
        }
        return number;
    }

    private Law lawNow() {
        return kindsOfLaw[state.law >= 0 && state.law < kindsOfLaw.length ? state.law : 0];
    }

    private boolean isPlace(int person, int good) {
        return state.people.has(person) && good >= 0 && good < GOODS;
    }

    private static boolean isLetter(int letter) {
        int rest = letter;
        for (int good = 0; good < GOODS; good++) {
            if (rest < 0 || rest % 10 > MOST_AMOUNT) {
                return false;
            }
            rest /= 10;
        }
        return rest == 0;
    }

    private static int costOf(int letter) {
        int cost = 0;
        int rest = letter;
        for (int good = 0; good < GOODS; good++) {
            cost += rest % 10;
            rest /= 10;
        }
        return cost;
    }

    private static int leastOf(int values) {
        for (int value = 0; value <= MOST_NEED; value++) {
            if ((values >> value & 1) == 1) {
                return value;
            }
        }
        return NONE;
    }

    private static int greatestOf(int values) {
        for (int value = MOST_NEED; value >= 0; value--) {
            if ((values >> value & 1) == 1) {
                return value;
            }
        }
        return NONE;
    }

    /** A part of a chance of so many hundredths, with what both parts share taken out of it. */
    private static int inLeastTerms(int part, int hundredths) {
        for (int shared = HUNDRED; shared > 1; shared--) {
            if (hundredths % shared == 0 && HUNDRED % shared == 0) {
                return part / shared;
            }
        }
        return part;
    }

    /** A row of numbers that has room for so many and no more. */
    private static final class Numbers {
        private final int[] items;
        private int size;

        Numbers(int room) {
            items = new int[room > 0 ? room : 0];
        }

        boolean isFull() {
            return size >= items.length;
        }

        void add(int number) {
            if (size >= 0 && size < items.length) {
                items[size] = number;
                size++;
            }
        }

        /** The number at a place; -1, which no row holds, where there is none. */
        int get(int place) {
            return place >= 0 && place < size && place < items.length ? items[place] : -1;
        }

        void set(int place, int number) {
            if (place >= 0 && place < size && place < items.length) {
                items[place] = number;
            }
        }

        void clear() {
            size = 0;
        }

        void takeFrom(Numbers other) {
            clear();
            for (int place = 0; place < other.size; place++) {
                add(other.get(place));
            }
        }
    }

    /** PERSONS with their NEEDS and GROWTHS, as they are or in mind. */
    private static final class People {
        private final int[] needs = new int[MOST_PERSONS * GOODS];
        private final int[] growths = new int[MOST_PERSONS];
        private int size;

        boolean has(int person) {
            return person >= 0 && person < size;
        }

        int lack(int person, int good) {
            int place = person * GOODS + good;
            return place >= 0 && place < needs.length ? needs[place] : 0;
        }

        void setLack(int person, int good, int value) {
            int place = person * GOODS + good;
            if (place >= 0 && place < needs.length) {
                needs[place] = Math.max(0, Math.min(value, MOST_NEED));
            }
        }

        /** A PERSON more, without NEEDS yet; false if there is no room. */
        boolean enter(int growth) {
            if (size < 0 || size >= growths.length) {
                return false;
            }
            growths[size] = growth;
            size++;
            return true;
        }

        void takeFrom(People other) {
            size = other.size;
            System.arraycopy(other.needs, 0, needs, 0, needs.length);
            System.arraycopy(other.growths, 0, growths, 0, growths.length);
        }

        int total() {
            int total = 0;
            for (int place = 0; place < needs.length; place++) {
                total += needs[place];
            }
            return total;
        }

        void grow() {
            for (int person = 0; person < size && person < growths.length; person++) {
                for (int good = 0; good < GOODS; good++) {
                    setLack(person, good, lack(person, good) + growths[person]);
                }
            }
        }

        /** Each of some PERSONS (bits) HAS the LETTER. */
        void handTo(int persons, int letter) {
            for (int person = 0; person < size; person++) {
                int rest = letter;
                for (int good = 0; good < GOODS && (persons >> person & 1) == 1; good++) {
                    setLack(person, good, lack(person, good) - rest % 10);
                    rest /= 10;
                }
            }
        }
    }

    /** All that THE IMAGE holds: not the letters that came nor the ROW, of which nothing is told yet. */
    private static final class State {
        private final People people = new People();
        private final Numbers kinds = new Numbers(MOST_WRITERS);
        private final Numbers aims = new Numbers(MOST_WRITERS);
        private final Numbers letters = new Numbers(MOST_WRITERS);
        private final Numbers told = new Numbers(MOST_TOLD);
        private final Numbers wentLetter = new Numbers(MOST_GOINGS);
        private final Numbers wentTo = new Numbers(MOST_GOINGS);
        private int law;
        private int err;
        private int day;
        private int posted;

        boolean isWriter(int writer) {
            return writer >= 0 && writer < kinds.size;
        }

        void takeFrom(State other) {
            people.takeFrom(other.people);
            kinds.takeFrom(other.kinds);
            aims.takeFrom(other.aims);
            letters.takeFrom(other.letters);
            told.takeFrom(other.told);
            wentLetter.takeFrom(other.wentLetter);
            wentTo.takeFrom(other.wentTo);
            law = other.law;
            err = other.err;
            day = other.day;
            posted = other.posted;
        }
    }

    /** Holds the letters that came and reads them: first their shape, then, into a draft, what they say. */
    private static final class Reader {
        private static final int SHAPE_FAULT = -1000;
        private static final int SENSE_FAULT = -2000;

        private final Numbers text = new Numbers(MOST_SIGNS);
        private final State draft = new State();
        private final int[] numbers = new int[GOODS + 1];
        private int at;

        /** How many STATEMENTS the state then has more, or the FAULT with which it stays as it is. */
        int read(State state) {
            draft.takeFrom(state);
            if (!isShaped()) {
                return SHAPE_FAULT - at;
            }
            int answer = enterAll();
            if (answer >= 0) {
                state.takeFrom(draft);
            }
            return answer;
        }

        private boolean isShaped() {
            at = 0;
            boolean right = scanStatement();
            for (int i = 0; i < MOST_SIGNS && right && at < text.size; i++) {
                right = scanStatement();
            }
            return right;
        }

        private int enterAll() {
            at = 0;
            int statements = 0;
            while (statements < MOST_SIGNS && at < text.size) {
                int start = at;
                int first = text.get(at);
                if (!scanStatement() || !enter(first)) {
                    return SENSE_FAULT - start;
                }
                statements++;
            }
            return statements;
        }

        /** Goes over one STATEMENT and keeps its numbers; stops at the letter that does not fit. */
        private boolean scanStatement() {
            if (pass('p')) {
                return scanPerson();
            }
            if (pass('w')) {
                return scanKind() && scanDigit(1) && pass(';');
            }
            return pass('l') && scanAmounts();
        }

        private boolean scanPerson() {
            boolean right = true;
            for (int good = 0; good < GOODS && right; good++) {
                right = scanNeed(good) && pass(good < GOODS - 1 ? ',' : '+');
            }
            return right && scanDigit(GOODS) && pass(';');
        }

        private boolean scanAmounts() {
            boolean right = true;
            for (int good = 0; good < GOODS && right; good++) {
                right = scanDigit(good);
            }
            return right && pass(';');
        }

        private boolean scanNeed(int slot) {
            if (!scanDigit(slot)) {
                return false;
            }
            int tens = numbers[slot];
            if (scanDigit(slot)) {
                numbers[slot] += tens * 10;
            }
            return true;
        }

        private boolean scanKind() {
            for (int kind = 0; kind < KINDS.length(); kind++) {
                if (pass(KINDS.charAt(kind))) {
                    numbers[0] = kind;
                    return true;
                }
            }
            return false;
        }

        private boolean scanDigit(int slot) {
            int sign = text.get(at);
            if (sign < '0' || sign > '9' || slot < 0 || slot >= numbers.length) {
                return false;
            }
            numbers[slot] = sign - '0';
            at++;
            return true;
        }

        private boolean pass(char sign) {
            if (text.get(at) != sign) {
                return false;
            }
            at++;
            return true;
        }

        private boolean enter(int first) {
            if (first == 'p') {
                return enterPerson();
            }
            return first == 'w' ? enterWriter() : enterAmounts();
        }

        private boolean enterPerson() {
            int person = draft.people.size;
            if (!areAtMost(MOST_NEED) || !draft.people.enter(numbers[GOODS])) {
                return false;
            }
            for (int good = 0; good < GOODS; good++) {
                draft.people.setLack(person, good, numbers[good]);
            }
            return true;
        }

        private boolean enterWriter() {
            if (draft.kinds.isFull() || !draft.people.has(numbers[1])) {
                return false;
            }
            draft.kinds.add(numbers[0]);
            draft.aims.add(numbers[1]);
            draft.letters.add(0);
            return true;
        }

        private boolean enterAmounts() {
            if (draft.letters.size == 0 || !areAtMost(MOST_AMOUNT)) {
                return false;
            }
            int letter = 0;
            for (int good = 0; good < GOODS; good++) {
                letter += numbers[good] * DIGIT[good];
            }
            draft.letters.set(draft.letters.size - 1, letter);
            return true;
        }

        private boolean areAtMost(int most) {
            for (int good = 0; good < GOODS; good++) {
                if (numbers[good] > most) {
                    return false;
                }
            }
            return true;
        }
    }

    /** By what a LETTER is delivered. */
    private abstract static class Law {
        /** Nobody else has a SCORE above 0. */
        private static final int ALONE = -1;
        /** Neither first nor second by SCORE, or without one. */
        private static final int BEHIND = 2;

        /** Where he to whom a LETTER GOES stands by SCORE: 0 the first, 1 the second. */
        private final int place;

        Law(int place) {
            this.place = place;
        }

        abstract int scoreOf(People people, int person, int letter);

        /** Who HAVE the LETTER (bits) when it GOES to that one first. */
        int havers(People people, int letter, int first) {
            return people.has(first) ? 1 << first : 0;
        }

        /** Where a PERSON stands by SCORE, then numbers. */
        final int rank(People people, int person, int letter) {
            int own = scoreOf(people, person, letter);
            if (own <= 0) {
                return BEHIND;
            }
            int ahead = 0;
            boolean alone = true;
            for (int other = 0; other < people.size && ahead < BEHIND; other++) {
                int score = other == person ? 0 : scoreOf(people, other, letter);
                alone = alone && score <= 0;
                if (score > own || score == own && other < person) {
                    ahead++;
                }
            }
            return alone ? ALONE : ahead;
        }

        final boolean reaches(People people, int person, int letter) {
            int rank = rank(people, person, letter);
            return rank == place || rank == ALONE;
        }

        final int receiver(People people, int letter) {
            for (int person = 0; person < people.size; person++) {
                int rank = rank(people, person, letter);
                if (rank == place || rank == ALONE) {
                    return person;
                }
            }
            return NONE;
        }

        final int deliver(People people, int letter) {
            int first = receiver(people, letter);
            people.handTo(havers(people, letter, first), letter);
            return first;
        }

        /** In how many of a hundred a PERSON gets the LETTER from an eye that errs in so many. */
        final int chance(People people, int person, int letter, int err) {
            int rank = rank(people, person, letter);
            if (rank == ALONE) {
                return HUNDRED;
            }
            if (rank == place) {
                return HUNDRED - err;
            }
            return rank == 1 - place ? err : 0;
        }
    }

    private static class Sum extends Law {
        Sum(int place) {
            super(place);
        }

        int scoreOf(People people, int person, int letter) {
            int score = 0;
            int at = person * GOODS;
            for (int rest = letter; rest > 0 && at >= 0 && at < people.needs.length; rest /= 10) {
                score += rest % 10 * people.needs[at];
                at++;
            }
            return score;
        }
    }

    private static class Met extends Sum {
        Met() {
            super(0);
        }

        int scoreOf(People people, int person, int letter) {
            int score = 0;
            int at = person * GOODS;
            for (int rest = letter; rest > 0 && at >= 0 && at < people.needs.length; rest /= 10) {
                int amount = rest % 10;
                score += amount < people.needs[at] ? amount : people.needs[at];
                at++;
            }
            return score;
        }
    }

    private static final class Most extends Law {
        Most() {
            super(0);
        }

        int scoreOf(People people, int person, int letter) {
            int score = 0;
            int at = person * GOODS;
            for (int rest = letter; rest > 0 && at >= 0 && at < people.needs.length; rest /= 10) {
                if (rest % 10 > 0 && people.needs[at] > score) {
                    score = people.needs[at];
                }
                at++;
            }
            return score;
        }
    }

    private static final class Second extends Sum {
        Second() {
            super(1);
        }
    }

    private static final class ReadOn extends Met {
        /** To have it changes nobody else's SCORE: so all with one have it, in whatever order. */
        int havers(People people, int letter, int first) {
            int bits = 0;
            for (int person = 0; person < people.size; person++) {
                if (scoreOf(people, person, letter) > 0) {
                    bits |= 1 << person;
                }
            }
            return bits;
        }
    }

    /** What is only thought of: nothing here changes the PEOPLE that it is asked about. */
    private static final class Mind {
        private final People thought = new People();
        private final People further = new People();
        private final Numbers line = new Numbers(MOST_TOLD);
        private final Numbers bestLine = new Numbers(MOST_TOLD);
        private int seed;

        /** CAN's LETTER for a PERSON; without one what else is told. */
        int cheapestTo(People people, Law law, int person, int otherwise) {
            int cheapest = otherwise;
            int least = DEAREST;
            for (int i = 0; i < TWO.length; i++) {
                int cost = costOf(TWO[i]);
                if (cost < least && law.reaches(people, person, TWO[i])) {
                    least = cost;
                    cheapest = TWO[i];
                }
            }
            return cheapest;
        }

        boolean isReached(People people, Law law, int person) {
            for (int i = 0; i < TWO.length; i++) {
                if (law.reaches(people, person, TWO[i])) {
                    return true;
                }
            }
            return false;
        }

        int reached(People people, Law law) {
            int bits = 0;
            for (int person = 0; person < people.size; person++) {
                if (isReached(people, law, person)) {
                    bits |= 1 << person;
                }
            }
            return bits;
        }

        /** The least COST of one LETTER beforehand; DEAREST if none does. */
        int costOfOneBefore(People people, Law law, int person) {
            thought.takeFrom(people);
            return costOfNext(law, person, DEAREST);
        }

        /** The least COST of two LETTERS beforehand, where one is too few; DEAREST if none do. */
        int costOfTwoBefore(People people, Law law, int person) {
            int least = DEAREST;
            for (int i = 0; i < TWO.length; i++) {
                int cost = costOf(TWO[i]);
                thought.takeFrom(people);
                // A LETTER that goes to none leaves all as it was, and there one was too few.
                if (cost < least && law.deliver(thought, TWO[i]) != NONE) {
                    least = Math.min(least, cost + costOfNext(law, person, least - cost));
                }
            }
            return least;
        }

        /** The least COST, below a limit, of a LETTER behind what is thought; else the limit. */
        private int costOfNext(Law law, int person, int limit) {
            int least = limit;
            for (int i = 0; i < TWO.length; i++) {
                int cost = costOf(TWO[i]);
                if (cost < least) {
                    further.takeFrom(thought);
                    int first = law.deliver(further, TWO[i]);
                    if (first != NONE && isReached(further, law, person)) {
                        least = cost;
                    }
                }
            }
            return least;
        }

        /**
         * Takes the first n digits of a number as the line; false if they are no line of so many.
         * Of a number below 0 the digits are below 0 too, or 0, which alone there can be.
         */
        boolean takeLine(int n, int number, int told) {
            line.clear();
            int rest = number;
            int taken = 0;
            for (int i = 0; i < n; i++) {
                int digit = rest % 10;
                if (digit < 0 || digit >= told || (taken >> digit & 1) == 1) {
                    return false;
                }
                taken |= 1 << digit;
                line.add(digit);
                rest /= 10;
            }
            return true;
        }

        int lessByLine(People people, Law law, Numbers told) {
            thought.takeFrom(people);
            for (int i = 0; i < line.size; i++) {
                law.deliver(thought, told.get(line.get(i)));
            }
            return people.total() - thought.total();
        }

        /** By how much ALL NEED is less by the best line, which is kept. */
        int findBestLine(People people, Law law, Numbers told) {
            line.clear();
            for (int i = 0; i < told.size; i++) {
                line.add(i);
            }
            int most = -1;
            // Five LETTERS have 120 lines.
            for (int tried = 0; tried < 120 && (tried == 0 || stepLine()); tried++) {
                int less = lessByLine(people, law, told);
                if (less > most) {
                    most = less;
                    bestLine.takeFrom(line);
                }
            }
            return most;
        }

        /** Makes the line the next by numbers; false if it was the last. */
        private boolean stepLine() {
            int turn = line.size - 2;
            while (turn >= 0 && line.get(turn) > line.get(turn + 1)) {
                turn--;
            }
            if (turn < 0) {
                return false;
            }
            int above = line.size - 1;
            while (above > turn && line.get(above) < line.get(turn)) {
                above--;
            }
            swapInLine(turn, above);
            int right = line.size - 1;
            for (int left = turn + 1; left < right; left++) {
                swapInLine(left, right);
                right--;
            }
            return true;
        }

        private void swapInLine(int one, int other) {
            int moved = line.get(one);
            line.set(one, line.get(other));
            line.set(other, moved);
        }

        int lessByGreed(People people, Law law, Numbers told) {
            thought.takeFrom(people);
            int taken = 0;
            for (int step = 0; step < told.size; step++) {
                int next = greediest(law, told, taken);
                taken |= 1 << next;
                law.deliver(thought, told.get(next));
            }
            return people.total() - thought.total();
        }

        private int greediest(Law law, Numbers told, int taken) {
            int greediest = 0;
            int most = -1;
            for (int i = 0; i < told.size; i++) {
                if ((taken >> i & 1) == 0) {
                    further.takeFrom(thought);
                    law.deliver(further, told.get(i));
                    int less = thought.total() - further.total();
                    if (less > most) {
                        most = less;
                        greediest = i;
                    }
                }
            }
            return greediest;
        }

        int timesTillHad(People people, Law law, int letter, int n) {
            thought.takeFrom(people);
            int had = 0;
            for (int times = 0; times <= MOST_POSTED_FORTY; times++) {
                if (Integer.bitCount(had) >= n) {
                    return times;
                }
                int first = law.receiver(thought, letter);
                had |= law.havers(thought, letter, first);
                law.deliver(thought, letter);
            }
            return NONE;
        }

        /** The values (bits) of a NEED with which all told GOINGS are so. */
        int fittingValues(State state, Law law, int person, int good) {
            thought.takeFrom(state.people);
            int bits = 0;
            for (int value = 0; value <= MOST_NEED; value++) {
                thought.setLack(person, good, value);
                if (allWentSo(state, law)) {
                    bits |= 1 << value;
                }
            }
            return bits;
        }

        private boolean allWentSo(State state, Law law) {
            for (int i = 0; i < state.wentLetter.size; i++) {
                int first = law.receiver(thought, state.wentLetter.get(i));
                if (first != state.wentTo.get(i)) {
                    return false;
                }
            }
            return true;
        }

        int mostTelling(People people, Law law, int person, int good, int values) {
            thought.takeFrom(people);
            int telling = 0;
            int most = 0;
            for (int i = 0; i < TWO.length; i++) {
                int unlike = receiversOver(law, person, good, values, TWO[i]);
                if (unlike > most) {
                    most = unlike;
                    telling = TWO[i];
                }
            }
            return telling;
        }

        /** How many unlike PERSONS, none being one too, get a LETTER over some values of a NEED. */
        private int receiversOver(Law law, int person, int good, int values, int letter) {
            int bits = 0;
            for (int value = 0; value <= MOST_NEED; value++) {
                if ((values >> value & 1) == 1) {
                    thought.setLack(person, good, value);
                    int first = law.receiver(thought, letter);
                    bits |= 1 << (first == NONE ? MOST_PERSONS : first);
                }
            }
            return Integer.bitCount(bits);
        }

        int surestTo(People people, Law law, int person, int err) {
            int surest = NONE;
            int greatest = 0;
            int least = DEAREST;
            for (int i = 0; i < TWO.length; i++) {
                int chance = law.chance(people, person, TWO[i], err);
                int cost = costOf(TWO[i]);
                if (chance > greatest || chance == greatest && chance > 0 && cost < least) {
                    greatest = chance;
                    least = cost;
                    surest = TWO[i];
                }
            }
            return surest;
        }

        /** The LETTER that a WRITER writes as things stand. */
        int written(State state, Law law, int writer) {
            int told = state.letters.get(writer);
            int person = state.aims.get(writer);
            switch (state.kinds.get(writer)) {
                case AIM:
                    return cheapestTo(state.people, law, person, told);
                case ALL:
                    return meetingMost(state.people, law);
                case TEST:
                    return state.day % 2 == 1 ? cheapestTo(state.people, law, person, told) : told;
                case AHEAD:
                    return easing(state.people, law, person, told);
                default:
                    return told;
            }
        }

        private int meetingMost(People people, Law law) {
            int best = 0;
            int most = -1;
            int least = DEAREST;
            for (int i = 0; i < TWO.length; i++) {
                thought.takeFrom(people);
                law.deliver(thought, TWO[i]);
                int less = people.total() - thought.total();
                int cost = costOf(TWO[i]);
                if (less > most || less == most && cost < least) {
                    most = less;
                    least = cost;
                    best = TWO[i];
                }
            }
            return best;
        }

        /** The cheapest LETTER behind which a PERSON can be reached for less; without one as AIM. */
        private int easing(People people, Law law, int person, int told) {
            int now = cheapestTo(people, law, person, NONE);
            int limit = now == NONE ? DEAREST : costOf(now);
            int easing = now == NONE ? told : now;
            int least = DEAREST;
            for (int i = 0; i < TWO.length; i++) {
                int cost = costOf(TWO[i]);
                if (cost < least) {
                    thought.takeFrom(people);
                    law.deliver(thought, TWO[i]);
                    int then = cheapestTo(thought, law, person, NONE);
                    if (then != NONE && costOf(then) < limit) {
                        least = cost;
                        easing = TWO[i];
                    }
                }
            }
            return easing;
        }

        int roundsOfTwo(State state, Law law, int one, int other) {
            int ofOne = state.letters.get(one);
            int ofOther = state.letters.get(other);
            for (int round = 1; round <= MOST_ROUNDS; round++) {
                int nextOfOne = aimedBehind(state, law, one, ofOther);
                int nextOfOther = aimedBehind(state, law, other, nextOfOne);
                if (nextOfOne == ofOne && nextOfOther == ofOther) {
                    return round;
                }
                ofOne = nextOfOne;
                ofOther = nextOfOther;
            }
            return NONE;
        }

        private int aimedBehind(State state, Law law, int writer, int letter) {
            thought.takeFrom(state.people);
            law.deliver(thought, letter);
            return cheapestTo(thought, law, state.aims.get(writer), state.letters.get(writer));
        }

        int needBehindDays(People people, Law law, int days, int z) {
            thought.takeFrom(people);
            seed = z;
            for (int i = 0; i < days; i++) {
                int letter = 0;
                for (int good = 0; good < GOODS; good++) {
                    letter += drawBelow(3) * DIGIT[good];
                }
                law.deliver(thought, letter);
                thought.grow();
            }
            return thought.total();
        }

        private int drawBelow(int bound) {
            seed = seed * 1664525 + 1013904223;
            return bound > 0 ? (seed & 0x7fffffff) / 256 % bound : 0;
        }

        /** The first told LETTER that does not GO as the ROW says. */
        int firstNotSo(People people, Law law, Numbers told, Numbers row) {
            thought.takeFrom(people);
            for (int i = 0; i < told.size; i++) {
                int first = law.deliver(thought, told.get(i));
                // A ROW that is too short has -1 there, to which no LETTER GOES.
                if (row.get(i) != (first == NONE ? 9 : first)) {
                    return i;
                }
            }
            return row.size > told.size ? told.size : NONE;
        }
    }
}
