import java.util.NoSuchElementException;

/**
 * Hats by candlelight: people under hats, who sees whom, what is told and asked, and what
 * everybody comes to know of it. README.md says how to use it.
 */
public final class HatRoom {
    public static final int NONE = -1;

    // The other answer without a value: the question stands, but nothing fits it.
    private static final int NOTHING = -2;

    private static final int MOST_COLOURS = 3;
    private static final int MOST_PEOPLE = 6;
    private static final int MOST_FACTS = 8;
    private static final int MOST_TELLS = 12;
    private static final int MOST_ASKS = 12;
    private static final int MOST_KNOTS = 64;
    private static final int MOST_OPEN = 8;
    private static final int MOST_TAPE = 700;
    private static final int MOST_WORLDS = 729;
    private static final int MOST_UNDO = 20;
    private static final int MOST_HOURS = 200;
    private static final int MOST_DEPTH = 20;
    private static final int LAST_TOLD_HOUR = 99;
    private static final int LAST_HOUR = 9800;

    // A world is packed: two bits a person, the first one highest, so worlds sort as numbered.
    private static final int KEYS = 4096;
    private static final int KEY_MASK = 4095;

    private static final int PRIZE_LAW = 0;
    private static final int HUSH_LAW = 1;
    private static final long ERROR = Long.MIN_VALUE;
    private static final long MOST_VALUE = 1000000000000L;

    // What may be tried otherwise; AS_TOLD: nothing is.
    private static final int AS_TOLD = -1;
    private static final int NOBODY_SHY = 0;
    private static final int ALL_SHY = 1;
    private static final int ONE_MUTE = 2;
    private static final int NOTHING_TOLD = 3;
    private static final int ALL_SEEN = 4;

    // Kinds of tokens, and of knots. Those of the words are their places in WORDS.
    private static final String WORDS = "colour person sees fact tell ask shy seed law prize hush or and not hat own knows all common many as hour left seen knew said told alike ";
    private static final int WORD_COUNT = 28;
    private static final int COLOUR = 0;
    private static final int PERSON = 1;
    private static final int SEES = 2;
    private static final int FACT = 3;
    private static final int TELL = 4;
    private static final int ASK = 5;
    private static final int SHY = 6;
    private static final int SEED = 7;
    private static final int LAW = 8;
    private static final int PRIZE = 9;
    private static final int HUSH = 10;
    private static final int OR = 11;
    private static final int AND = 12;
    private static final int NOT = 13;
    private static final int HAT = 14;
    private static final int OWN = 15;
    private static final int KNOWS = 16;
    private static final int ALL = 17;
    private static final int COMMON = 18;
    private static final int MANY = 19;
    private static final int AS = 20;
    private static final int HOUR = 21;
    private static final int LEFT = 22;
    private static final int SEEN = 23;
    private static final int KNEW = 24;
    private static final int SAID = 25;
    private static final int TOLD = 26;
    private static final int ALIKE = 27;
    private static final int PLUS = 28;
    private static final int MINUS = 29;
    private static final int TIMES = 30;
    private static final int OVER = 31;
    private static final int LESS = 32;
    private static final int LESS_SAME = 33;
    private static final int SAME = 34;
    private static final int OTHER = 35;
    private static final int MORE_SAME = 36;
    private static final int MORE = 37;
    private static final int NUMBER = 38;
    private static final int NAME = 39;
    private static final int SEMICOLON = 40;
    private static final int OPEN = 41;
    private static final int CLOSE = 42;
    private static final int BAD = 43;
    private static final int END = 44;

    // Faults.
    private static final int UNFIT = 1;
    private static final int TOO_MUCH = 2;
    private static final int AGAIN = 3;
    private static final int UNKNOWN = 4;
    private static final int IMPOSSIBLE = 5;

    private final byte[] tape = new byte[MOST_TAPE];
    private int tapeSize;
    private final Tokens tokens = new Tokens();
    private final Reader reader = new Reader(tokens);
    private final Mind mind = new Mind();
    private final Laws laws = new Laws();
    private Text script = new Text();
    private Text spare = new Text();
    private final Course course = new Course(mind, laws, script);
    private final State now = new State();
    private final State trial = new State();
    private final State image = new State();
    private boolean imageKept;
    private final State[] past = new State[MOST_UNDO];
    private int pastSize;
    private int pastNext;

    public HatRoom() {
        now.begin(script);
    }

    public int feed(int a, int b, int c, int d, int e) {
        if (tapeSize + 20 > MOST_TAPE) {
            return NONE;
        }
        put(a);
        put(b);
        put(c);
        put(d);
        put(e);
        return tapeSize;
    }

    private void put(int four) {
        for (int shift = 24; shift >= 0 && tapeSize < MOST_TAPE; shift -= 8) {
            tape[tapeSize] = (byte) (four >> shift);
            tapeSize++;
        }
    }

    public int text(int n) {
        if (n < 0 || n > tapeSize) {
            return NOTHING;
        }
        tokens.scan(tape, n);
        tapeSize = 0;
        int lines = reader.read(spare);
        if (lines < 0) {
            return NONE;
        }
        Text old = script;
        script = spare;
        spare = old;
        now.begin(script);
        imageKept = false;
        pastSize = 0;
        return lines;
    }

    public int fault(int what) {
        if (what == 0) {
            return tokens.fault;
        }
        return what == 1 ? tokens.faultPlace : NONE;
    }

    public int named(int what, int letters) {
        switch (what) {
            case 0:
                return script.colours.find(letters);
            case 1:
                return script.people.find(letters);
            case 2:
                return script.facts.find(letters);
            default:
                return NONE;
        }
    }

    private boolean isPerson(int person) {
        return script.people.has(person);
    }

    private boolean areTwo(int one, int other) {
        return isPerson(one) && isPerson(other) && one != other;
    }

    private boolean isFact(int fact) {
        return script.facts.has(fact);
    }

    public int person(int person, int what) throws IndexOutOfBoundsException, NoSuchElementException {
        if (!isPerson(person)) {
            throw new IndexOutOfBoundsException();
        }
        switch (what) {
            case 0:
                return script.hats[person];
            case 1:
                return now.sees[person];
            case 2:
                return now.said >> person & 1;
            case 3:
                return now.prizes[person];
            case 4:
                return now.coloursFor(person, person);
            case 5:
                return now.alikeFor(person);
            default:
                throw new NoSuchElementException();
        }
    }

    public int own(int person) {
        if (!isPerson(person)) {
            return NONE;
        }
        return now.knows(person, person) ? script.hats[person] : NOTHING;
    }

    public int world(int k, int person) {
        if (k < 0 || !isPerson(person)) {
            return NONE;
        }
        return k < now.size ? colourIn(now.left[k], person) : NOTHING;
    }

    public int real() {
        return now.real;
    }

    public int is(int fact) {
        if (!isFact(fact)) {
            return NONE;
        }
        mind.judge(script, now, script.needs[fact]);
        return mind.bit(now.real, script.roots[fact]);
    }

    public int sure(int person, int fact) {
        if (!isPerson(person) || !isFact(fact)) {
            return NONE;
        }
        mind.judge(script, now, script.needs[fact]);
        return mind.sureness(now, person, script.roots[fact]);
    }

    public int common(int fact) {
        if (!isFact(fact)) {
            return NONE;
        }
        mind.judge(script, now, script.needs[fact]);
        mind.keepOnly(now, script.roots[fact]);
        mind.sharedByAll(now, 0, 1);
        return mind.bit(now.real, 1);
    }

    public int depth(int fact) {
        if (!isFact(fact)) {
            return NONE;
        }
        mind.judge(script, now, script.needs[fact]);
        mind.keepOnly(now, script.roots[fact]);
        if (mind.bit(now.real, 0) == 0) {
            return NOTHING;
        }
        for (int deep = 0; deep < MOST_DEPTH; deep++) {
            mind.knownByAll(now, deep, deep + 1);
            if (mind.bit(now.real, deep + 1) == 0) {
                return deep;
            }
        }
        return MOST_DEPTH;
    }

    public long law(int what, int person) {
        if (what != PRIZE_LAW && what != HUSH_LAW || !isPerson(person)) {
            return ERROR;
        }
        return laws.valueOf(script, what, now, person, Integer.bitCount(now.knowers()));
    }

    public int tell(int fact) {
        if (!isFact(fact)) {
            return NONE;
        }
        trial.copy(now);
        course.set(script, false, AS_TOLD, NONE);
        if (!course.hear(now, fact)) {
            return NOTHING;
        }
        remember(trial);
        return now.size;
    }

    public int ask() {
        remember(now);
        course.set(script, false, AS_TOLD, NONE);
        return course.askAll(now);
    }

    public int peep(int person, int other) {
        if (!areTwo(person, other)) {
            return NONE;
        }
        if ((now.sees[person] >> other & 1) != 0) {
            return NOTHING;
        }
        remember(now);
        now.see(person, other);
        return now.alikeFor(person);
    }

    private void remember(State state) {
        if (pastNext < 0 || pastNext >= MOST_UNDO) {
            pastNext = 0;
        }
        if (past[pastNext] == null) {
            past[pastNext] = new State();
        }
        past[pastNext].copy(state);
        pastNext++;
        pastSize = Math.min(pastSize + 1, MOST_UNDO);
    }

    public int go(int n) {
        if (n < 0 || n > MOST_HOURS || now.hour + n > LAST_HOUR) {
            return NONE;
        }
        if (n > 0) {
            pastSize = 0;
        }
        course.set(script, true, AS_TOLD, NONE);
        course.pass(now, n);
        return now.hour;
    }

    public int ahead(int n, int what, int person) {
        if (n < 0 || n > MOST_HOURS || what < 0 || what > 4 || what == 3 && !isPerson(person)) {
            return NONE;
        }
        trial.copy(now);
        course.set(script, false, AS_TOLD, NONE);
        course.pass(trial, n);
        switch (what) {
            case 0:
                return trial.size;
            case 1:
                return Integer.bitCount(trial.knowers());
            case 2:
                return Integer.bitCount(trial.said);
            case 3:
                return trial.prizes[person];
            default:
                return trial.lies - now.lies;
        }
    }

    public int willKnow(int person) {
        if (!isPerson(person)) {
            return NONE;
        }
        trial.copy(now);
        course.set(script, false, AS_TOLD, NONE);
        for (int hours = 0; hours < MOST_HOURS; hours++) {
            if (trial.knows(person, person)) {
                return hours;
            }
            if (trial.hour > LAST_TOLD_HOUR) {
                return NOTHING;
            }
            course.pass(trial, 1);
        }
        return NOTHING;
    }

    public int parts() {
        return mind.join(now);
    }

    public int rounds(int what) {
        if (what < 0 || what > 2) {
            return NONE;
        }
        trial.copy(now);
        course.set(script, false, NOBODY_SHY, NONE);
        int times = 0;
        for (int round = 0; round < MOST_WORLDS; round++) {
            int before = trial.size;
            course.askAll(trial);
            if (trial.size == before) {
                break;
            }
            times++;
        }
        if (what == 0) {
            return times;
        }
        return what == 1 ? trial.knowers() : trial.size;
    }

    public int teach(int person) {
        return isPerson(person) ? mind.fewestFacts(script, now, 1 << person) : NONE;
    }

    public int teachAll() {
        return mind.fewestFacts(script, now, (1 << now.people) - 1);
    }

    public int look(int person, int what) {
        if (!isPerson(person) || what != 0 && what != 1) {
            return NONE;
        }
        int best = NOTHING;
        int fewest = MOST_WORLDS + 1;
        for (int other = 0; other < now.people; other++) {
            boolean unseen = other != person && (now.sees[person] >> other & 1) == 0;
            if (unseen && now.mostFor(person, other) < fewest) {
                best = other;
                fewest = now.mostFor(person, other);
            }
        }
        return what == 0 || best < 0 ? best : fewest;
    }

    public int guess(int person, int what) {
        if (!isPerson(person) || what < 0 || what > 2) {
            return NONE;
        }
        int most = now.mostFor(person, person);
        if (what == 1) {
            return leastTerm(most, most, now.alikeFor(person));
        }
        if (what == 2) {
            return leastTerm(now.alikeFor(person), most, now.alikeFor(person));
        }
        for (int colour = 0; colour < MOST_COLOURS; colour++) {
            if (now.tally(person, person, colour) == most) {
                return colour;
            }
        }
        return NONE;
    }

    public int likely(int fact, int what) {
        if (!isFact(fact) || what != 0 && what != 1) {
            return NONE;
        }
        mind.judge(script, now, script.needs[fact]);
        int so = mind.howMany(now, script.roots[fact]);
        return leastTerm(what == 0 ? so : now.size, so, now.size);
    }

    /** One term of the fraction a / b, in least terms. */
    private static int leastTerm(int term, int a, int b) {
        int big = a;
        int small = b;
        for (int step = 0; step < 64 && small != 0; step++) {
            int rest = big % small;
            big = small;
            small = rest;
        }
        return big > 0 ? term / big : term;
    }

    public int secret(int person, int other) {
        if (!areTwo(person, other)) {
            return NONE;
        }
        return now.knows(other, person) ? 0 : 1;
    }

    public int rests(int one, int other) {
        if (!areTwo(one, other)) {
            return NONE;
        }
        int found = 0;
        for (int pair = 0; pair < 4; pair++) {
            found += isRest(one, other, pair) ? 1 : 0;
        }
        return found;
    }

    public int rest(int one, int other, int k) {
        if (!areTwo(one, other) || k < 0) {
            return NONE;
        }
        int found = 0;
        for (int pair = 0; pair < 4; pair++) {
            if (isRest(one, other, pair)) {
                if (found == k) {
                    return 10 * (pair >> 1) + (pair & 1);
                }
                found++;
            }
        }
        return NOTHING;
    }

    /** Whether neither of two would have more otherwise; the pair's high bit is the first one's. */
    private boolean isRest(int one, int other, int pair) {
        int first = pair >> 1;
        int second = pair & 1;
        return share(one, first, second) >= share(one, 1 - first, second)
                && share(other, second, first) >= share(other, 1 - second, first);
    }

    /** What one has who does mine (0 speaks, 1 waits) while the other one does theirs. */
    private int share(int person, int mine, int theirs) {
        if (mine == 0) {
            return Math.max((theirs == 0 ? 9 : 12) - now.alikeFor(person), 0);
        }
        return Integer.bitCount(now.sees[person]) + (theirs == 0 ? 2 : 0);
    }

    public int chance(int seed, int n, int person) {
        if (seed < 0 || n < 1 || n > LAST_TOLD_HOUR || !isPerson(person)) {
            return NONE;
        }
        course.set(script, true, AS_TOLD, NONE);
        long last = seed;
        int times = 0;
        for (int draw = 0; draw < 10; draw++) {
            trial.copy(now);
            trial.last = last;
            course.pass(trial, n);
            last = trial.last;
            times += trial.said >> person & 1;
        }
        return times;
    }

    public int tried(int what, int i, int n) {
        if (what < NOBODY_SHY || what > ALL_SEEN || n < 0 || n > MOST_HOURS) {
            return NONE;
        }
        if (what == ONE_MUTE ? !isPerson(i) : i != 0) {
            return NONE;
        }
        trial.copy(now);
        if (what == ALL_SEEN) {
            trial.seeAll();
        }
        course.set(script, false, what, i);
        course.pass(trial, n);
        return trial.size;
    }

    public int undo() {
        if (pastSize <= 0) {
            return NONE;
        }
        pastNext = pastNext > 0 ? pastNext - 1 : MOST_UNDO - 1;
        pastSize--;
        if (pastNext < MOST_UNDO && past[pastNext] != null) {
            now.copy(past[pastNext]);
        }
        return pastSize;
    }

    public int keep() {
        image.copy(now);
        imageKept = true;
        return now.hour;
    }

    public int back() {
        if (!imageKept) {
            return NONE;
        }
        now.copy(image);
        pastSize = 0;
        return now.hour;
    }

    public int count(int what) {
        switch (what) {
            case 0:
                return script.colours.size;
            case 1:
                return script.people.size;
            case 2:
                return script.facts.size;
            case 3:
                return script.tells;
            case 4:
                return script.asks;
            case 5:
                return script.knots.size;
            case 6:
                return now.hour;
            case 7:
                return now.size;
            case 8:
                return Integer.bitCount(now.knowers());
            case 9:
                return Integer.bitCount(now.said);
            case 10:
                return now.prizesOfAll();
            case 11:
                return now.heard;
            case 12:
                return now.lies;
            case 13:
                return pastSize;
            default:
                return NONE;
        }
    }

    private static int shiftOf(int person) {
        return 10 - 2 * person;
    }

    private static int colourIn(int world, int person) {
        return world >> shiftOf(person) & 3;
    }

    /** The names of one kind, numbered as they come. */
    private static final class Names {
        private final int[] codes;
        int size;

        Names(int most) {
            codes = new int[most > 0 ? most : 0];
        }

        boolean isFull() {
            return size >= codes.length;
        }

        int find(int code) {
            for (int i = 0; i < size; i++) {
                if (codes[i] == code) {
                    return i;
                }
            }
            return NONE;
        }

        void add(int code) {
            if (!isFull()) {
                codes[size] = code;
                size++;
            }
        }

        boolean has(int i) {
            return i >= 0 && i < size;
        }
    }

    /** The knots of all facts and laws, each behind those that it is made of. */
    private static final class Knots {
        final int[] kinds = new int[MOST_KNOTS];
        final int[] xs = new int[MOST_KNOTS];
        final int[] ys = new int[MOST_KNOTS];
        int size;
        // Those whose token has come; a sign's knot is added later than its token is read.
        int begun;

        int add(int kind, int x, int y) {
            if (size >= MOST_KNOTS) {
                return MOST_KNOTS - 1;
            }
            kinds[size] = kind;
            xs[size] = x;
            ys[size] = y;
            size++;
            return size - 1;
        }
    }

    /** What a text tells; none of it changes as hours go by. */
    private static final class Text {
        final Names colours = new Names(MOST_COLOURS);
        final Names people = new Names(MOST_PEOPLE);
        final Names facts = new Names(MOST_FACTS);
        final Knots knots = new Knots();
        final int[] stocks = new int[MOST_COLOURS];
        final int[] hats = new int[MOST_PEOPLE];
        final int[] sees = new int[MOST_PEOPLE];
        // The last knot of each fact, and all knots (bits) that it hangs on.
        final int[] roots = new int[MOST_FACTS];
        final long[] needs = new long[MOST_FACTS];
        int tells;
        final int[] tellFacts = new int[MOST_TELLS];
        final int[] tellHours = new int[MOST_TELLS];
        int asks;
        final int[] askHours = new int[MOST_ASKS];
        // The last knot of each law and its knots (bits), none if it isn't told.
        final int[] lawRoots = new int[2];
        final long[] lawNeeds = new long[2];
        // NONE: not told.
        int shy = NONE;
        int seed = NONE;
        int truth;

        void clear() {
            colours.size = 0;
            people.size = 0;
            facts.size = 0;
            knots.size = 0;
            knots.begun = 0;
            tells = 0;
            asks = 0;
            shy = NONE;
            seed = NONE;
            truth = 0;
            for (int i = 0; i < MOST_PEOPLE; i++) {
                sees[i] = 0;
            }
            lawNeeds[PRIZE_LAW] = 0L;
            lawNeeds[HUSH_LAW] = 0L;
        }

        int hatsOf(int colour) {
            int many = 0;
            for (int i = 0; i < people.size; i++) {
                many += hats[i] == colour ? 1 : 0;
            }
            return many;
        }

        /** The n-th way to put hats on, packed; NONE if a stock doesn't reach. */
        int packed(int n) {
            int world = 0;
            int used = 0;
            int rest = n;
            int many = colours.size;
            for (int i = people.size - 1; i >= 0 && many > 0; i--) {
                int colour = rest % many;
                rest /= many;
                world |= colour << shiftOf(i);
                used += 1 << 4 * colour;
            }
            for (int c = 0; c < many; c++) {
                if ((used >> 4 * c & 15) > stocks[c]) {
                    return NONE;
                }
            }
            return world;
        }
    }

    /** A tape cut into tokens, a place among them, and the first fault. */
    private static final class Tokens {
        private final int[] words = new int[WORD_COUNT];
        private final int[] kinds = new int[MOST_TAPE + 1];
        private final int[] places = new int[MOST_TAPE + 1];
        private final int[] values = new int[MOST_TAPE + 1];
        private int size;
        private int at;
        private int letters;
        int fault;
        int faultPlace = NONE;

        Tokens() {
            int word = 0;
            int shift = 25;
            for (int i = 0; i < WORDS.length() && word < WORD_COUNT; i++) {
                char sign = WORDS.charAt(i);
                if (sign == ' ') {
                    word++;
                    shift = 25;
                } else {
                    words[word] |= (sign - 'a' + 1) << shift;
                    shift -= 5;
                }
            }
        }

        void scan(byte[] tape, int length) {
            size = 0;
            at = 0;
            fault = 0;
            faultPlace = NONE;
            boolean inWord = false;
            boolean inNumber = false;
            for (int i = 0; i < length && i < tape.length; i++) {
                int sign = tape[i];
                boolean letter = sign >= 'a' && sign <= 'z';
                boolean digit = sign >= '0' && sign <= '9';
                if (letter) {
                    addLetter(sign - 'a' + 1, i, inWord);
                } else if (digit) {
                    addDigit(sign - '0', i, inNumber);
                } else if (sign != 10 && sign != 32) {
                    addSign(sign, i);
                }
                inWord = letter;
                inNumber = digit;
            }
            begin(END, length);
            nameWords();
        }

        private void begin(int kind, int place) {
            if (size < kinds.length) {
                kinds[size] = kind;
                places[size] = place;
                values[size] = 0;
                size++;
            }
        }

        private void addLetter(int letter, int place, boolean inWord) {
            if (!inWord) {
                begin(NAME, place);
                letters = 0;
            }
            letters++;
            if (size > 0 && letters <= 6) {
                values[size - 1] |= letter << 30 - 5 * letters;
            } else if (size > 0) {
                kinds[size - 1] = BAD;
            }
        }

        private void addDigit(int digit, int place, boolean inNumber) {
            if (!inNumber) {
                begin(NUMBER, place);
            }
            if (size > 0) {
                // Held above every bound of the language, so that a long row can't wrap.
                values[size - 1] = Math.min(values[size - 1] * 10 + digit, 1000000);
            }
        }

        private void addSign(int sign, int place) {
            boolean near = size > 0 && places[size - 1] == place - 1;
            int before = near ? kinds[size - 1] : END;
            if (sign == '=' && (before == LESS || before == MORE)) {
                kinds[size - 1] = before == LESS ? LESS_SAME : MORE_SAME;
            } else if (sign == '>' && before == LESS) {
                kinds[size - 1] = OTHER;
            } else {
                begin(kindOf(sign), place);
            }
        }

        private static int kindOf(int sign) {
            switch (sign) {
                case ';':
                    return SEMICOLON;
                case '(':
                    return OPEN;
                case ')':
                    return CLOSE;
                case '+':
                    return PLUS;
                case '-':
                    return MINUS;
                case '*':
                    return TIMES;
                case '/':
                    return OVER;
                case '<':
                    return LESS;
                case '=':
                    return SAME;
                case '>':
                    return MORE;
                default:
                    return BAD;
            }
        }

        private void nameWords() {
            for (int i = 0; i < size; i++) {
                for (int word = 0; word < WORD_COUNT && kinds[i] == NAME; word++) {
                    if (values[i] == words[word]) {
                        kinds[i] = word;
                    }
                }
            }
        }

        int kind() {
            return at < size ? kinds[at] : END;
        }

        int value() {
            return at < size ? values[at] : 0;
        }

        void step() {
            at++;
        }

        boolean fail(int what) {
            fault = what;
            faultPlace = at < size ? places[at] : NONE;
            return false;
        }

        /** Whether a number is here, not above most; else a fault. */
        boolean isNumber(int most) {
            if (kind() != NUMBER) {
                return fail(UNFIT);
            }
            return value() <= most || fail(TOO_MUCH);
        }

        /** Whether a name is here that isn't told yet; else a fault. */
        boolean isFresh(Names names) {
            if (kind() != NAME) {
                return fail(UNFIT);
            }
            return names.find(value()) < 0 || fail(AGAIN);
        }

        /** The number of the name that is here; NONE with a fault. */
        int known(Names names) {
            if (kind() != NAME) {
                fail(UNFIT);
                return NONE;
            }
            int found = names.find(value());
            if (found < 0) {
                fail(UNKNOWN);
            }
            return found;
        }

        /** Steps behind the semicolon that must be here; else a fault. */
        boolean endsLine() {
            if (kind() != SEMICOLON) {
                return fail(UNFIT);
            }
            at++;
            return true;
        }
    }

    /** Reads the lines of a text; of faults the tokens keep the first one. */
    private static final class Reader {
        private final Tokens tokens;
        private final Formula formula;

        Reader(Tokens tokens) {
            this.tokens = tokens;
            this.formula = new Formula(tokens);
        }

        /** How many lines there are; NONE with a fault. */
        int read(Text text) {
            text.clear();
            for (int lines = 0; lines <= MOST_TAPE; lines++) {
                int kind = tokens.kind();
                if (kind == END) {
                    return lines;
                }
                boolean fine = kind == FACT ? factLine(text) : kind == LAW ? lawLine(text) : plainLine(text, kind);
                if (!fine || !tokens.endsLine()) {
                    return NONE;
                }
            }
            return NONE;
        }

        private boolean plainLine(Text text, int kind) {
            switch (kind) {
                case COLOUR:
                    return colourLine(text);
                case PERSON:
                    return personLine(text);
                case SEES:
                    return seesLine(text);
                case TELL:
                    return tellLine(text);
                case ASK:
                    return askLine(text);
                case SHY:
                    return shyLine(text);
                case SEED:
                    return seedLine(text);
                default:
                    return tokens.fail(UNFIT);
            }
        }

        private boolean colourLine(Text text) {
            if (text.colours.isFull()) {
                return tokens.fail(TOO_MUCH);
            }
            tokens.step();
            if (!tokens.isFresh(text.colours)) {
                return false;
            }
            int code = tokens.value();
            tokens.step();
            if (!tokens.isNumber(6)) {
                return false;
            }
            text.stocks[text.colours.size] = tokens.value();
            text.colours.add(code);
            tokens.step();
            return true;
        }

        private boolean personLine(Text text) {
            if (text.people.isFull()) {
                return tokens.fail(TOO_MUCH);
            }
            tokens.step();
            if (!tokens.isFresh(text.people)) {
                return false;
            }
            int code = tokens.value();
            tokens.step();
            int colour = tokens.known(text.colours);
            if (colour < 0) {
                return false;
            }
            if (text.hatsOf(colour) >= text.stocks[colour]) {
                return tokens.fail(IMPOSSIBLE);
            }
            text.hats[text.people.size] = colour;
            text.truth |= colour << shiftOf(text.people.size);
            text.people.add(code);
            tokens.step();
            return true;
        }

        private boolean seesLine(Text text) {
            tokens.step();
            int person = tokens.known(text.people);
            if (person < 0) {
                return false;
            }
            if (text.sees[person] != 0) {
                return tokens.fail(AGAIN);
            }
            tokens.step();
            for (int i = 0; i < MOST_PEOPLE && (i == 0 || tokens.kind() == NAME); i++) {
                int other = tokens.known(text.people);
                if (other < 0) {
                    return false;
                }
                if (other == person) {
                    return tokens.fail(IMPOSSIBLE);
                }
                if ((text.sees[person] >> other & 1) != 0) {
                    return tokens.fail(AGAIN);
                }
                text.sees[person] |= 1 << other;
                tokens.step();
            }
            return true;
        }

        private boolean tellLine(Text text) {
            if (text.tells >= MOST_TELLS) {
                return tokens.fail(TOO_MUCH);
            }
            tokens.step();
            int fact = tokens.known(text.facts);
            if (fact < 0) {
                return false;
            }
            tokens.step();
            if (!tokens.isNumber(LAST_TOLD_HOUR)) {
                return false;
            }
            text.tellFacts[text.tells] = fact;
            text.tellHours[text.tells] = tokens.value();
            text.tells++;
            tokens.step();
            return true;
        }

        private boolean askLine(Text text) {
            if (text.asks >= MOST_ASKS) {
                return tokens.fail(TOO_MUCH);
            }
            tokens.step();
            if (!tokens.isNumber(LAST_TOLD_HOUR)) {
                return false;
            }
            text.askHours[text.asks] = tokens.value();
            text.asks++;
            tokens.step();
            return true;
        }

        private boolean shyLine(Text text) {
            if (text.shy != NONE) {
                return tokens.fail(AGAIN);
            }
            tokens.step();
            if (!tokens.isNumber(100)) {
                return false;
            }
            text.shy = tokens.value();
            tokens.step();
            return true;
        }

        private boolean seedLine(Text text) {
            if (text.seed != NONE) {
                return tokens.fail(AGAIN);
            }
            tokens.step();
            if (!tokens.isNumber(99999)) {
                return false;
            }
            text.seed = tokens.value();
            tokens.step();
            return true;
        }

        private boolean factLine(Text text) {
            if (text.facts.isFull()) {
                return tokens.fail(TOO_MUCH);
            }
            tokens.step();
            if (!tokens.isFresh(text.facts)) {
                return false;
            }
            int code = tokens.value();
            tokens.step();
            int root = formula.read(text, true);
            if (root < 0) {
                return false;
            }
            text.roots[text.facts.size] = root;
            text.needs[text.facts.size] = formula.needs;
            // Only now: a fact isn't told ahead of its own formula.
            text.facts.add(code);
            return true;
        }

        private boolean lawLine(Text text) {
            tokens.step();
            int rule = tokens.kind();
            if (rule != PRIZE && rule != HUSH) {
                return tokens.fail(UNFIT);
            }
            int law = rule == PRIZE ? PRIZE_LAW : HUSH_LAW;
            if (text.lawNeeds[law] != 0L) {
                return tokens.fail(AGAIN);
            }
            tokens.step();
            int root = formula.read(text, false);
            if (root < 0) {
                return false;
            }
            text.lawRoots[law] = root;
            text.lawNeeds[law] = formula.needs;
            return true;
        }
    }

    /** Reads one F or E up to its semicolon, by the strengths of the signs that wait. */
    private static final class Formula {
        // What may come next: anything, no 'not', a sign behind an operand; or a fault was found.
        private static final int FREE = 0;
        private static final int TIGHT = 1;
        private static final int BEHIND = 2;
        private static final int WRONG = 3;

        private static final int AND_STRENGTH = 2;
        private static final int COMPARE_STRENGTH = 4;

        private final Tokens tokens;
        private final int[] waiting = new int[MOST_KNOTS + MOST_OPEN];
        private final int[] whose = new int[MOST_KNOTS + MOST_OPEN];
        private int waits;
        private final int[] operands = new int[MOST_KNOTS];
        private int height;
        private int open;
        private Knots knots = new Knots();
        long needs;

        Formula(Tokens tokens) {
            this.tokens = tokens;
        }

        /** The last knot; NONE with a fault. */
        int read(Text text, boolean isFact) {
            knots = text.knots;
            waits = 0;
            height = 0;
            open = 0;
            needs = 0L;
            int state = FREE;
            for (int token = 0; token <= MOST_TAPE && state != WRONG; token++) {
                if (state == BEHIND && open == 0 && tokens.kind() == SEMICOLON) {
                    tieDownTo(1);
                    return height > 0 ? operands[0] : NONE;
                }
                if (state == BEHIND) {
                    state = readSign(isFact);
                } else {
                    state = isFact ? readFact(text, state) : readValue(state);
                }
            }
            return NONE;
        }

        private int wrong(int what) {
            tokens.fail(what);
            return WRONG;
        }

        private boolean mayBegin() {
            if (knots.begun >= MOST_KNOTS) {
                return tokens.fail(TOO_MUCH);
            }
            knots.begun++;
            return true;
        }

        private int readFact(Text text, int state) {
            int kind = tokens.kind();
            switch (kind) {
                case HAT:
                case OWN:
                case MANY:
                case AS:
                    return mayBegin() ? readLeaf(text, kind) : WRONG;
                case KNOWS:
                    return mayBegin() ? readKnows(text) : WRONG;
                case ALL:
                case COMMON:
                    return mayBegin() ? hold(kind, 0, TIGHT) : WRONG;
                default:
                    return readEither(kind, state);
            }
        }

        private int readValue(int state) {
            int kind = tokens.kind();
            if (kind != NUMBER && (kind < HOUR || kind > ALIKE)) {
                return readEither(kind, state);
            }
            if (kind == NUMBER && !tokens.isNumber(9999) || !mayBegin()) {
                return WRONG;
            }
            push(knots.add(kind, kind == NUMBER ? tokens.value() : 0, 0));
            tokens.step();
            return BEHIND;
        }

        /** What may begin an operand of facts and of laws alike. */
        private int readEither(int kind, int state) {
            if (kind == NOT && state != TIGHT) {
                return mayBegin() ? hold(NOT, 0, FREE) : WRONG;
            }
            if (kind != OPEN) {
                return wrong(UNFIT);
            }
            if (open >= MOST_OPEN) {
                return wrong(TOO_MUCH);
            }
            open++;
            return hold(OPEN, 0, FREE);
        }

        private int readKnows(Text text) {
            tokens.step();
            int person = tokens.known(text.people);
            if (person < 0) {
                return WRONG;
            }
            return hold(KNOWS, person, TIGHT);
        }

        private int readLeaf(Text text, int kind) {
            tokens.step();
            Names first = kind == MANY ? text.colours : kind == AS ? text.facts : text.people;
            int x = tokens.known(first);
            if (x < 0) {
                return WRONG;
            }
            tokens.step();
            int y = 0;
            if (kind == HAT) {
                y = tokens.known(text.colours);
                if (y < 0) {
                    return WRONG;
                }
                tokens.step();
            } else if (kind == MANY) {
                if (!tokens.isNumber(6)) {
                    return WRONG;
                }
                y = tokens.value();
                tokens.step();
            } else if (kind == AS) {
                needs |= text.needs[x];
                y = text.roots[x];
            }
            push(knots.add(kind, x, y));
            return BEHIND;
        }

        private int readSign(boolean isFact) {
            int kind = tokens.kind();
            if (kind == CLOSE && open > 0) {
                tieDownTo(1);
                waits--;
                open--;
                tokens.step();
                return BEHIND;
            }
            int strength = kind == NOT ? 0 : strengthOf(kind);
            if (strength == 0 || strength > (isFact ? AND_STRENGTH : 6)) {
                return wrong(UNFIT);
            }
            boolean compares = strength == COMPARE_STRENGTH;
            tieDownTo(compares ? strength + 1 : strength);
            if (compares && waits > 0 && strengthOf(waiting[waits - 1]) == COMPARE_STRENGTH) {
                return wrong(UNFIT);
            }
            return mayBegin() ? hold(kind, 0, strength <= AND_STRENGTH ? FREE : TIGHT) : WRONG;
        }

        private static int strengthOf(int kind) {
            switch (kind) {
                case OR:
                    return 1;
                case AND:
                    return AND_STRENGTH;
                case NOT:
                    return 3;
                case LESS:
                case LESS_SAME:
                case SAME:
                case OTHER:
                case MORE_SAME:
                case MORE:
                    return COMPARE_STRENGTH;
                case PLUS:
                case MINUS:
                    return 5;
                case TIMES:
                case OVER:
                    return 6;
                case KNOWS:
                case ALL:
                case COMMON:
                    return 7;
                default:
                    return 0;
            }
        }

        /** A sign waits for what comes behind it: what may come next. */
        private int hold(int kind, int person, int next) {
            if (waits < waiting.length) {
                waiting[waits] = kind;
                whose[waits] = person;
                waits++;
            }
            tokens.step();
            return next;
        }

        private void push(int knot) {
            needs |= 1L << knot;
            if (height < operands.length) {
                operands[height] = knot;
                height++;
            }
        }

        private int pop() {
            if (height <= 0) {
                return 0;
            }
            height--;
            return operands[height];
        }

        /** Makes knots of the signs that wait, the latest first, down to a strength. */
        private void tieDownTo(int strength) {
            for (int i = waits - 1; i >= 0 && strengthOf(waiting[i]) >= strength; i--) {
                int kind = waiting[i];
                waits = i;
                if (kind == KNOWS || kind == ALL || kind == COMMON || kind == NOT) {
                    push(knots.add(kind, pop(), whose[i]));
                } else {
                    int y = pop();
                    push(knots.add(kind, pop(), y));
                }
            }
        }
    }

    /** All that changes: the worlds left, who sees whom, what was said and heard, and when. */
    private static final class State {
        final int[] left = new int[MOST_WORLDS];
        final int[] sees = new int[MOST_PEOPLE];
        // The bits of a packed world that each person sees.
        final int[] views = new int[MOST_PEOPLE];
        final int[] prizes = new int[MOST_PEOPLE];
        int size;
        int real;
        int people;
        int said;
        int heard;
        int lies;
        int hour;
        long last;

        void begin(Text text) {
            people = text.people.size;
            said = 0;
            heard = 0;
            lies = 0;
            hour = 0;
            last = text.seed == NONE ? 0 : text.seed;
            for (int i = 0; i < MOST_PEOPLE; i++) {
                sees[i] = 0;
                views[i] = 0;
                prizes[i] = 0;
            }
            for (int i = 0; i < people; i++) {
                seeThese(i, text.sees[i]);
            }
            fill(text);
        }

        private void fill(Text text) {
            int ways = 1;
            for (int i = 0; i < people; i++) {
                ways *= text.colours.size;
            }
            size = 0;
            real = 0;
            for (int n = 0; n < ways && n < MOST_WORLDS; n++) {
                int world = text.packed(n);
                if (world != NONE) {
                    real = world == text.truth ? size : real;
                    left[size] = world;
                    size++;
                }
            }
        }

        void copy(State from) {
            System.arraycopy(from.left, 0, left, 0, from.size);
            for (int i = 0; i < MOST_PEOPLE; i++) {
                sees[i] = from.sees[i];
                views[i] = from.views[i];
                prizes[i] = from.prizes[i];
            }
            size = from.size;
            real = from.real;
            people = from.people;
            said = from.said;
            heard = from.heard;
            lies = from.lies;
            hour = from.hour;
            last = from.last;
        }

        void see(int person, int other) {
            if (person >= 0 && person < MOST_PEOPLE && other >= 0 && other < MOST_PEOPLE) {
                sees[person] |= 1 << other;
                views[person] |= 3 << shiftOf(other);
            }
        }

        private void seeThese(int person, int others) {
            for (int other = 0; other < people; other++) {
                if ((others >> other & 1) != 0) {
                    see(person, other);
                }
            }
        }

        void seeAll() {
            for (int i = 0; i < people; i++) {
                seeThese(i, (1 << people) - 1 & ~(1 << i));
            }
        }

        /** Only worlds whose row has that bit are left. */
        void retain(long[] rows, int bit) {
            int stay = 0;
            int place = 0;
            for (int p = 0; p < size; p++) {
                if ((rows[p] >>> bit & 1L) != 0L) {
                    place = p == real ? stay : place;
                    left[stay] = left[p];
                    stay++;
                }
            }
            size = stay;
            real = place;
        }

        boolean isAlike(int p, int person) {
            return ((left[p] ^ left[real]) & views[person]) == 0;
        }

        int alikeFor(int person) {
            int many = 0;
            int seen = left[real] & views[person];
            for (int p = 0; p < size; p++) {
                many += (left[p] & views[person]) == seen ? 1 : 0;
            }
            return many;
        }

        /** In how many worlds alike for a person one has a hat of that colour. */
        int tally(int person, int one, int colour) {
            int many = 0;
            for (int p = 0; p < size; p++) {
                many += isAlike(p, person) && colourIn(left[p], one) == colour ? 1 : 0;
            }
            return many;
        }

        int mostFor(int person, int one) {
            int most = 0;
            for (int colour = 0; colour < MOST_COLOURS; colour++) {
                most = Math.max(most, tally(person, one, colour));
            }
            return most;
        }

        /** The colours (bits) that one's hat has in worlds alike for a person. */
        int coloursFor(int person, int one) {
            int bits = 0;
            for (int p = 0; p < size; p++) {
                if (isAlike(p, person)) {
                    bits |= 1 << colourIn(left[p], one);
                }
            }
            return bits;
        }

        boolean knows(int person, int one) {
            return Integer.bitCount(coloursFor(person, one)) == 1;
        }

        int knowers() {
            int bits = 0;
            for (int i = 0; i < people; i++) {
                bits |= knows(i, i) ? 1 << i : 0;
            }
            return bits;
        }

        int prizesOfAll() {
            int sum = 0;
            for (int i = 0; i < people; i++) {
                sum += prizes[i];
            }
            return sum;
        }

        /** The next number of the row that the seed begins. */
        int draw() {
            last = last * 1103515245L + 12345L & 0x7fffffffL;
            return (int) (last / 65536L);
        }
    }

    /** What is so in each world left; a row of bits for each of them, a knot's bit is its number. */
    private static final class Mind {
        // By what one sees of a world: the turn in which it was met, and what was gathered then.
        private final int[] stamps = new int[KEYS];
        private final int[] pool = new int[KEYS];
        private int turn;
        final long[] rows = new long[MOST_WORLDS];
        private final int[] heads = new int[MOST_WORLDS];
        private boolean joined;
        private final boolean[] barred = new boolean[256];

        int bit(int p, int bit) {
            return p >= 0 && p < rows.length ? (int) (rows[p] >>> bit & 1L) : 0;
        }

        private void set(int p, int bit, boolean so) {
            if (so) {
                rows[p] |= 1L << bit;
            } else {
                rows[p] &= ~(1L << bit);
            }
        }

        /** Works out those knots (bits) in all worlds left. */
        void judge(Text text, State s, long needs) {
            joined = false;
            Knots knots = text.knots;
            for (int k = 0; k < knots.size; k++) {
                if ((needs >>> k & 1L) == 0L) {
                    continue;
                }
                int x = knots.xs[k];
                int y = knots.ys[k];
                switch (knots.kinds[k]) {
                    case HAT:
                        wears(s, x, y, k);
                        break;
                    case OWN:
                        knowsOwn(s, x, k);
                        break;
                    case MANY:
                        hasMany(s, x, y, k);
                        break;
                    case AS:
                        both(s, y, y, k);
                        break;
                    case AND:
                        both(s, x, y, k);
                        break;
                    case OR:
                        either(s, x, y, k);
                        break;
                    case NOT:
                        isNot(s, x, k);
                        break;
                    case KNOWS:
                        knowsThat(s, y, x, k);
                        break;
                    case ALL:
                        knownByAll(s, x, k);
                        break;
                    default:
                        sharedByAll(s, x, k);
                        break;
                }
            }
        }

        private void wears(State s, int person, int colour, int to) {
            for (int p = 0; p < s.size; p++) {
                set(p, to, colourIn(s.left[p], person) == colour);
            }
        }

        private void hasMany(State s, int colour, int least, int to) {
            for (int p = 0; p < s.size; p++) {
                int many = 0;
                for (int i = 0; i < s.people; i++) {
                    many += colourIn(s.left[p], i) == colour ? 1 : 0;
                }
                set(p, to, many >= least);
            }
        }

        private void both(State s, int x, int y, int to) {
            for (int p = 0; p < s.size; p++) {
                set(p, to, (rows[p] >>> x & rows[p] >>> y & 1L) != 0L);
            }
        }

        private void either(State s, int x, int y, int to) {
            for (int p = 0; p < s.size; p++) {
                set(p, to, ((rows[p] >>> x | rows[p] >>> y) & 1L) != 0L);
            }
        }

        private void isNot(State s, int x, int to) {
            for (int p = 0; p < s.size; p++) {
                set(p, to, (rows[p] >>> x & 1L) == 0L);
            }
        }

        void knowsOwn(State s, int person, int to) {
            turn++;
            int view = s.views[person];
            for (int p = 0; p < s.size; p++) {
                int key = s.left[p] & view & KEY_MASK;
                int colour = 1 << colourIn(s.left[p], person);
                pool[key] = stamps[key] == turn ? pool[key] | colour : colour;
                stamps[key] = turn;
            }
            for (int p = 0; p < s.size; p++) {
                int colours = pool[s.left[p] & view & KEY_MASK];
                set(p, to, (colours & colours - 1) == 0);
            }
        }

        /** Stamps what a person sees in worlds where the bit isn't so. */
        private void stampFalse(State s, int person, int bit) {
            turn++;
            int view = s.views[person];
            for (int p = 0; p < s.size; p++) {
                if ((rows[p] >>> bit & 1L) == 0L) {
                    stamps[s.left[p] & view & KEY_MASK] = turn;
                }
            }
        }

        private void knowsThat(State s, int person, int from, int to) {
            stampFalse(s, person, from);
            int view = s.views[person];
            for (int p = 0; p < s.size; p++) {
                set(p, to, stamps[s.left[p] & view & KEY_MASK] != turn);
            }
        }

        void knownByAll(State s, int from, int to) {
            for (int p = 0; p < s.size; p++) {
                set(p, to, true);
            }
            for (int i = 0; i < s.people; i++) {
                stampFalse(s, i, from);
                int view = s.views[i];
                for (int p = 0; p < s.size; p++) {
                    if (stamps[s.left[p] & view & KEY_MASK] == turn) {
                        set(p, to, false);
                    }
                }
            }
        }

        void sharedByAll(State s, int from, int to) {
            if (!joined) {
                join(s);
            }
            for (int p = 0; p < s.size; p++) {
                set(p, to, true);
            }
            for (int p = 0; p < s.size; p++) {
                if ((rows[p] >>> from & 1L) == 0L) {
                    set(heads[p], to, false);
                }
            }
            for (int p = 0; p < s.size; p++) {
                set(p, to, (rows[heads[p]] >>> to & 1L) != 0L);
            }
        }

        /** Finds the head, the first world, of each set that hangs together: how many sets. */
        int join(State s) {
            for (int p = 0; p < s.size; p++) {
                heads[p] = p;
            }
            for (int i = 0; i < s.people; i++) {
                turn++;
                for (int p = 0; p < s.size; p++) {
                    int key = s.left[p] & s.views[i] & KEY_MASK;
                    pool[key] = stamps[key] == turn ? pool[key] : p;
                    stamps[key] = turn;
                    int one = headOf(p);
                    int other = headOf(pool[key]);
                    heads[Math.max(one, other)] = Math.min(one, other);
                }
            }
            int sets = 0;
            for (int p = 0; p < s.size; p++) {
                // A head is never behind its world, so the one ahead is settled already.
                heads[p] = heads[heads[p]];
                sets += heads[p] == p ? 1 : 0;
            }
            joined = true;
            return sets;
        }

        private int headOf(int p) {
            int head = p;
            for (int step = 0; step < MOST_WORLDS && heads[head] != head; step++) {
                heads[head] = heads[heads[head]];
                head = heads[head];
            }
            return head;
        }

        /** Leaves of each row that bit alone, as bit 0. */
        void keepOnly(State s, int bit) {
            for (int p = 0; p < s.size; p++) {
                rows[p] = rows[p] >>> bit & 1L;
            }
        }

        int howMany(State s, int bit) {
            int many = 0;
            for (int p = 0; p < s.size; p++) {
                many += bit(p, bit);
            }
            return many;
        }

        /** 1: a person knows that the bit is so, 0: that it isn't, 2: neither. */
        int sureness(State s, int person, int bit) {
            boolean never = true;
            boolean always = true;
            for (int p = 0; p < s.size; p++) {
                if (s.isAlike(p, person)) {
                    never &= bit(p, bit) == 0;
                    always &= bit(p, bit) == 1;
                }
            }
            return always ? 1 : never ? 0 : 2;
        }

        /** Of each row bit i: whether person i knows his hat there. The higher bits mean nothing. */
        void judgeOwn(State s) {
            for (int i = 0; i < s.people; i++) {
                knowsOwn(s, i, i);
            }
        }

        /** The fewest facts (bits) that, told at once, make those people (bits) know. */
        int fewestFacts(Text text, State s, int people) {
            long needs = 0L;
            for (int fact = 0; fact < text.facts.size; fact++) {
                needs |= text.needs[fact];
            }
            judge(text, s, needs);
            barRivals(text, s, people);
            int so = factsSo(text, s.real);
            int best = NOTHING;
            for (int set = 0; set < barred.length; set++) {
                boolean fewer = best < 0 || Integer.bitCount(set) < Integer.bitCount(best);
                if ((set & ~so) == 0 && !barred[set] && fewer) {
                    best = set;
                }
            }
            return best;
        }

        private int factsSo(Text text, int p) {
            int so = 0;
            for (int fact = 0; fact < text.facts.size; fact++) {
                so |= bit(p, text.roots[fact]) << fact;
            }
            return so;
        }

        /** Bars each set of facts that leaves one of those people a world with another hat. */
        private void barRivals(Text text, State s, int people) {
            for (int set = 0; set < barred.length; set++) {
                barred[set] = false;
            }
            for (int p = 0; p < s.size; p++) {
                if (isRival(s, p, people)) {
                    barred[factsSo(text, p) & 255] = true;
                }
            }
            // All facts of a smaller set are so wherever those of a larger one are.
            for (int set = barred.length - 1; set > 0; set--) {
                for (int fact = 0; fact < MOST_FACTS; fact++) {
                    if (barred[set] && (set >> fact & 1) != 0) {
                        barred[set ^ 1 << fact] = true;
                    }
                }
            }
        }

        private static boolean isRival(State s, int p, int people) {
            for (int i = 0; i < s.people; i++) {
                boolean otherHat = colourIn(s.left[p], i) != colourIn(s.left[s.real], i);
                if ((people >> i & 1) != 0 && otherHat && s.isAlike(p, i)) {
                    return true;
                }
            }
            return false;
        }
    }

    /** Works out the laws' E. */
    private static final class Laws {
        private final long[] values = new long[MOST_KNOTS];

        /** E of a person; ERROR, if it has one or the law isn't told. */
        long valueOf(Text text, int law, State s, int person, int knew) {
            long needs = text.lawNeeds[law];
            if (needs == 0L) {
                return ERROR;
            }
            int root = text.lawRoots[law];
            for (int k = 0; k <= root && k < MOST_KNOTS; k++) {
                if ((needs >>> k & 1L) != 0L) {
                    int kind = text.knots.kinds[k];
                    int x = text.knots.xs[k];
                    long value = kind >= HOUR && kind <= ALIKE ? nameValue(kind, s, person, knew)
                            : kind == NUMBER ? x : work(kind, values[x], values[text.knots.ys[k]]);
                    if (value > MOST_VALUE || value < -MOST_VALUE) {
                        return ERROR;
                    }
                    values[k] = value;
                }
            }
            return values[root];
        }

        private static long nameValue(int kind, State s, int person, int knew) {
            switch (kind) {
                case HOUR:
                    return s.hour;
                case LEFT:
                    return s.size;
                case SEEN:
                    return Integer.bitCount(s.sees[person]);
                case KNEW:
                    return knew;
                case SAID:
                    return Integer.bitCount(s.said);
                case TOLD:
                    return s.heard;
                default:
                    return s.alikeFor(person);
            }
        }

        private static long work(int kind, long a, long b) {
            switch (kind) {
                case OR:
                    return truth(a != 0 || b != 0);
                case AND:
                    return truth(a != 0 && b != 0);
                case NOT:
                    return truth(a == 0);
                case LESS:
                    return truth(a < b);
                case LESS_SAME:
                    return truth(a <= b);
                case SAME:
                    return truth(a == b);
                case OTHER:
                    return truth(a != b);
                case MORE_SAME:
                    return truth(a >= b);
                case MORE:
                    return truth(a > b);
                case PLUS:
                    return a + b;
                case MINUS:
                    return a - b;
                case TIMES:
                    // Tested ahead of multiplying: a product of two values may be beyond a long.
                    return b == 0 || Math.abs(a) <= MOST_VALUE / Math.abs(b) ? a * b : ERROR;
                default:
                    return b == 0 ? ERROR : a / b;
            }
        }

        private static long truth(boolean so) {
            return so ? 1L : 0L;
        }
    }

    /** How hours go by: what is told and asked in them, and what comes of it. */
    private static final class Course {
        private final Mind mind;
        private final Laws laws;
        private Text text;
        private boolean drawn;
        private int otherwise = AS_TOLD;
        private int mute = NONE;

        Course(Mind mind, Laws laws, Text text) {
            this.mind = mind;
            this.laws = laws;
            this.text = text;
        }

        /** By numbers or as it goes, and what is otherwise. */
        void set(Text script, boolean byNumbers, int what, int who) {
            text = script;
            drawn = byNumbers;
            otherwise = what;
            mute = who;
        }

        void pass(State s, int hours) {
            int end = s.hour + hours;
            // Nothing can be told or asked of later hours.
            for (int i = 0; i < hours && s.hour <= LAST_TOLD_HOUR; i++) {
                passOne(s);
            }
            s.hour = end;
        }

        private void passOne(State s) {
            for (int i = 0; i < text.tells && otherwise != NOTHING_TOLD; i++) {
                if (text.tellHours[i] == s.hour && !hear(s, text.tellFacts[i])) {
                    s.lies++;
                }
            }
            for (int i = 0; i < text.asks; i++) {
                if (text.askHours[i] == s.hour) {
                    askAll(s);
                }
            }
            s.hour++;
        }

        /** A fact is told: whether it is so. Of a lie nothing comes. */
        boolean hear(State s, int fact) {
            int root = text.roots[fact];
            mind.judge(text, s, text.needs[fact]);
            if (mind.bit(s.real, root) == 0) {
                return false;
            }
            s.retain(mind.rows, root);
            s.heard++;
            return true;
        }

        /** All are asked: who says so (bits). */
        int askAll(State s) {
            mind.judgeOwn(s);
            long[] rows = mind.rows;
            int know = (int) rows[s.real] & (1 << s.people) - 1;
            int knew = Integer.bitCount(know);
            int says = 0;
            int plain = 0;
            for (int i = 0; i < s.people; i++) {
                int odds = hushOf(s, i, knew);
                if ((know >> i & 1) != 0 && speaks(s, odds)) {
                    says |= 1 << i;
                    reward(s, i, knew);
                } else if (odds == 0) {
                    plain |= 1 << i;
                }
            }
            for (int p = 0; p < s.size; p++) {
                rows[p] = (rows[p] & (says | plain)) == says ? 1L : 0L;
            }
            s.retain(rows, 0);
            return says;
        }

        private boolean speaks(State s, int odds) {
            if (!drawn) {
                return odds < 50;
            }
            return odds == 0 || odds < 100 && s.draw() % 100 >= odds;
        }

        /** Who says it the first time has a prize. */
        private void reward(State s, int person, int knew) {
            if ((s.said >> person & 1) != 0) {
                return;
            }
            long prize = laws.valueOf(text, PRIZE_LAW, s, person, knew);
            s.prizes[person] += prize == ERROR ? 10 : (int) Math.max(0L, Math.min(999L, prize));
            s.said |= 1 << person;
        }

        private int hushOf(State s, int person, int knew) {
            if (otherwise == NOBODY_SHY) {
                return 0;
            }
            if (otherwise == ALL_SHY || otherwise == ONE_MUTE && person == mute) {
                return 100;
            }
            long hush = laws.valueOf(text, HUSH_LAW, s, person, knew);
            if (hush == ERROR) {
                return Math.max(text.shy, 0);
            }
            return (int) Math.max(0L, Math.min(100L, hush));
        }
    }
}
