import java.util.NoSuchElementException;

/** A zoo in which the visitors are the show and the animals hold the tickets. */
public final class BearTickets {
    public static final int NONE = -1;

    private static final int REFUSED = -2;

    private static final int PENS = 6;
    private static final int GUESTS = 6;
    private static final int ANIMALS = 5;
    private static final int KINDS = 4;
    private static final int SETS = 16;
    private static final int CROWDS = 64;
    private static final int ALL_SETS = 65535;
    private static final int MOST_TOLD = 8;
    private static final int UNDOS = 16;
    private static final int MARKS = 4;
    private static final int LINES = 40;
    private static final int TAPE = 1000;
    private static final int MOODS = 10;
    private static final int TOP_MOOD = 9;
    private static final int TOP_WORTH = 99;
    private static final int TOP_SEATS = 9;
    private static final int TOP_MINUTES = 30;
    private static final int TOP_COINS = 999;
    private static final int TOP_TYRE_COST = 99;
    private static final int ODDS = 10;
    private static final int CLOCK = 10;
    private static final int MILLION = 1000000;
    private static final int MOST_RAIN = 6;
    private static final int MOST_YEARS = 100;
    private static final int TOP_SEED = 9999;
    private static final int TOP_PRICE = 6;
    private static final int TOP_CROWD = 20;
    private static final int TOP_COST = 9;
    // Longer than any walk: six legs of at most five paths of thirty minutes.
    private static final int FAR = 1000;

    // The words of the language, in the order of the numbers below.
    private static final String WORDS =
        "pen seats path guest mood in animal likes coins foe feeds tyre costs rain sees moods move hour plain poet boy single not and or liked humour others watched fed ";
    private static final int WORD_COUNT = 30;
    private static final int W_PEN = 0;
    private static final int W_SEATS = 1;
    private static final int W_PATH = 2;
    private static final int W_GUEST = 3;
    private static final int W_MOOD = 4;
    private static final int W_IN = 5;
    private static final int W_ANIMAL = 6;
    private static final int W_LIKES = 7;
    private static final int W_COINS = 8;
    private static final int W_FOE = 9;
    private static final int W_FEEDS = 10;
    private static final int W_TYRE = 11;
    private static final int W_COSTS = 12;
    private static final int W_RAIN = 13;
    private static final int W_SEES = 14;
    private static final int W_MOODS = 15;
    private static final int W_MOVE = 16;
    private static final int W_HOUR = 17;
    private static final int W_PLAIN = 18;
    private static final int W_NOT = 22;
    private static final int W_AND = 23;
    private static final int W_OR = 24;
    // The facts, from here on, are words that a name may be.
    private static final int W_LIKED = 25;

    private static final int FACTS = 5;
    private static final int LIKED = 0;
    private static final int HUMOUR = 1;
    private static final int OTHERS = 2;
    private static final int WATCHED = 3;
    private static final int FED = 4;
    private static final int FACTS_OF_SEES = 7;
    private static final int FACTS_OF_MOODS = 30;

    private static final int LONGEST_WORD = 8;
    private static final int LONGEST_NUMBER = 4;
    private static final int DEEPEST = 5;

    private static final int MISPLACED = 1;
    private static final int UNKNOWN = 2;
    private static final int TWICE = 3;
    private static final int OUT_OF_RANGE = 4;
    private static final int TOO_MANY = 5;

    // A line of the days is its verb + 4 * its guest + 32 * its pen.
    private static final int MOVE = 0;
    private static final int TYRE = 1;
    private static final int HOUR = 2;

    private final Tape tape;
    private final Reader reader;
    private final Hour clock;
    private final Show best;
    private final Weather weather;
    private final Rows rows;
    private Zoo park;
    private Zoo spare;
    private final Memory now;
    private final Memory[] marks;
    private final State trial;
    private final State[] past;
    private int undos;
    private int pastEnd;

    public BearTickets() {
        tape = new Tape();
        reader = new Reader(tape);
        clock = new Hour();
        best = new Show();
        weather = new Weather();
        rows = new Rows();
        park = new Zoo();
        spare = new Zoo();
        now = new Memory();
        marks = new Memory[MARKS];
        for (int i = 0; i < MARKS; i++) {
            marks[i] = new Memory();
        }
        trial = new State();
        past = new State[UNDOS];
        for (int i = 0; i < UNDOS; i++) {
            past[i] = new State();
        }
        park.clear();
        park.close();
    }

    public int feed(long a, long b, long c) {
        tape.addAll(a);
        tape.addAll(b);
        tape.addAll(c);
        return tape.size;
    }

    public int zoo() {
        int fault = reader.readZoo(spare);
        if (fault == 0) {
            Zoo old = park;
            park = spare;
            spare = old;
            now.begin(park.start);
            undos = 0;
            best.fresh = false;
            for (int i = 0; i < MARKS; i++) {
                marks[i].laid = false;
            }
        }
        return fault;
    }

    public int days() {
        int fault = reader.readDays(park);
        if (fault == 0) {
            now.takeDays(reader.lines, reader.lineCount);
        }
        return fault;
    }

    public int pen(int pen, int what) {
        if (!isPen(pen)) {
            return NONE;
        }
        switch (what) {
            case 0:
                return park.seats[pen];
            case 1:
                return now.state.guestsIn(pen, park.guests);
            case 2:
                clock.foresee(park, now.state, true);
                return clock.watchers[pen];
            default:
                return NONE;
        }
    }

    public int guest(int guest, int what) {
        if (!isGuest(guest)) {
            return NONE;
        }
        switch (what) {
            case 0:
                return park.kinds[guest];
            case 1:
                return now.state.mood[guest];
            case 2:
                return now.state.where[guest];
            case 3:
                clock.foresee(park, now.state, true);
                return clock.moodAfter[guest];
            default:
                return NONE;
        }
    }

    public int animal(int animal, int what) {
        if (!isAnimal(animal)) {
            return REFUSED;
        }
        switch (what) {
            case 0:
                return park.likes[animal];
            case 1:
                return now.state.coins[animal];
            case 2:
                clock.foresee(park, now.state, true);
                return clock.chosen[animal];
            case 3:
                clock.foresee(park, now.state, true);
                return clock.paid[animal];
            default:
                return REFUSED;
        }
    }

    public int worth(int animal, int pen) {
        if (!isAnimal(animal) || !isPen(pen)) {
            return NONE;
        }
        clock.weigh(park, now.state);
        return clock.worthTo(1 << park.likes[animal], pen);
    }

    public boolean move(int guest, int pen) {
        return isGuest(guest) && isPen(pen) && act(lineOf(MOVE, guest, pen));
    }

    public int tyre(int guest) {
        if (!isGuest(guest) || !act(lineOf(TYRE, guest, 0))) {
            return NONE;
        }
        return now.state.mood[guest];
    }

    public int hour() {
        int before = now.state.taken;
        act(HOUR);
        return now.state.taken - before;
    }

    public boolean undo() {
        if (undos <= 0) {
            return false;
        }
        undos--;
        pastEnd = (pastEnd + UNDOS - 1) % UNDOS;
        now.state.copy(past[pastEnd]);
        best.fresh = false;
        return true;
    }

    public int judged(int what) {
        if (what < 0 || what > 2) {
            return REFUSED;
        }
        int refused = NONE;
        int pacing = NONE;
        trial.copy(park.start);
        for (int i = 0; i < now.lineCount; i++) {
            if (!clock.obey(park, trial, now.lines[i])) {
                refused = refused == NONE ? i : refused;
            } else if (pacing == NONE && trial.pacing(park.guests) != 0) {
                pacing = i;
            }
        }
        return what == 0 ? refused : what == 1 ? pacing : trial.taken;
    }

    public int show(int what) {
        if (!best.fresh) {
            best.search(park, now.state);
        }
        if (!best.found || what < 0 || what >= 2 + park.guests) {
            return NONE;
        }
        return what == 0 ? best.taken : what == 1 ? best.pacing : best.row[what - 2];
    }

    public boolean tell(int pen) {
        if (now.toldCount >= MOST_TOLD) {
            return false;
        }
        if (pen != NONE && (!isPen(pen) || park.seats[pen] == 0)) {
            return false;
        }
        now.sets &= clock.setsChoosing(park, now.state, pen);
        now.toldCount++;
        return true;
    }

    public int sets(int what) {
        int many = Integer.bitCount(now.sets);
        if (what == 0) {
            return many;
        }
        if (many == 0) {
            return NONE;
        }
        switch (what) {
            case 1:
                return kindsInAll(now.sets);
            case 2:
                return kindsInSome(now.sets);
            case 3:
                return smallestSet(now.sets);
            default:
                return NONE;
        }
    }

    public int next() {
        int all = Integer.bitCount(now.sets);
        int least = all;
        int answer = NONE;
        for (int guest = 0; guest < park.guests; guest++) {
            int come = Integer.bitCount(now.sets & park.setsDrawnBy(guest, now.state.mood[guest]));
            int greater = Math.max(come, all - come);
            if (greater < least) {
                least = greater;
                answer = guest;
            }
        }
        return answer;
    }

    public int apart(int guest) {
        if (guest != NONE && !isGuest(guest)) {
            return REFUSED;
        }
        int fewest = rows.keepApart(park);
        return guest == NONE ? fewest : rows.row[guest];
    }

    public int tyres() {
        int answer = NONE;
        int fewest = GUESTS + 1;
        for (int set = 0; set < 1 << park.guests; set++) {
            if (Integer.bitCount(set) < fewest && tyresHelp(set)) {
                fewest = Integer.bitCount(set);
                answer = set;
            }
        }
        return answer;
    }

    public int walk(int pen, int what) {
        if (!isPen(pen) || what < 0) {
            return NONE;
        }
        rows.walkFrom(park, now.state, pen);
        if (rows.minutes >= FAR || what > rows.length) {
            return NONE;
        }
        return what == 0 ? rows.minutes : rows.order[what - 1];
    }

    public int rests(int animals, int cost, int what) throws NoSuchElementException {
        if (animals < 0 || animals > TOP_CROWD || cost < 0 || cost > TOP_COST || what < NONE) {
            throw new NoSuchElementException();
        }
        int many = 0;
        for (int first = 1; first <= TOP_PRICE; first++) {
            for (int other = 1; other <= TOP_PRICE; other++) {
                if (isRest(animals, cost, first, other)) {
                    if (many == what) {
                        return 10 * first + other;
                    }
                    many++;
                }
            }
        }
        if (what != NONE) {
            throw new NoSuchElementException();
        }
        return many;
    }

    public int rain(int guest, int hours) {
        if ((guest != NONE && !isGuest(guest)) || hours < 1 || hours > MOST_RAIN) {
            return REFUSED;
        }
        trial.copy(now.state);
        return weather.chance(park, trial, guest, hours);
    }

    public int first(int hours) {
        if (hours < 1 || hours > MOST_RAIN) {
            return NONE;
        }
        int answer = NONE;
        int least = MILLION + 1;
        for (int guest = 0; guest < park.guests; guest++) {
            trial.copy(now.state);
            park.cheer(trial, guest);
            int chance = weather.chance(park, trial, NONE, hours);
            if (chance < least) {
                least = chance;
                answer = guest;
            }
        }
        return answer;
    }

    public int years(int seed, int hours, int what) {
        if (seed < 0 || seed > TOP_SEED || hours < 1 || hours > MOST_YEARS || what < 0 || what > 2) {
            return NONE;
        }
        trial.copy(now.state);
        weather.liveOn(park, trial, seed, hours);
        return what == 0 ? weather.takenInAll : what == 1 ? weather.pacedInAll : trial.moodsTogether(park.guests);
    }

    public boolean mark(int mark, boolean back) {
        if (mark < 0 || mark >= MARKS || (back && !marks[mark].laid)) {
            return false;
        }
        if (back) {
            now.copy(marks[mark]);
            undos = 0;
            best.fresh = false;
        } else {
            marks[mark].copy(now);
            marks[mark].laid = true;
        }
        return true;
    }

    public int count(int what) {
        switch (what) {
            case 0:
                return park.pens;
            case 1:
                return park.guests;
            case 2:
                return park.animals;
            case 3:
                return park.paths;
            case 4:
                return park.foePairs();
            case 5:
                return now.state.hour;
            case 6:
                return now.state.taken;
            case 7:
                return now.state.pacing(park.guests);
            case 8:
                return now.state.coinsTogether(park.animals);
            case 9:
                return now.lineCount;
            case 10:
                return now.toldCount;
            case 11:
                return undos;
            case 12:
                return tape.size;
            default:
                return NONE;
        }
    }

    private boolean isPen(int pen) {
        return pen >= 0 && pen < park.pens;
    }

    private boolean isGuest(int guest) {
        return guest >= 0 && guest < park.guests;
    }

    private boolean isAnimal(int animal) {
        return animal >= 0 && animal < park.animals;
    }

    private static int lineOf(int verb, int guest, int pen) {
        return verb + 4 * guest + 32 * pen;
    }

    // It is tried aside first: what can't be must not push the oldest undo out.
    private boolean act(int line) {
        trial.copy(now.state);
        if (!clock.obey(park, trial, line)) {
            return false;
        }
        past[pastEnd].copy(now.state);
        pastEnd = (pastEnd + 1) % UNDOS;
        undos = Math.min(undos + 1, UNDOS);
        now.state.copy(trial);
        best.fresh = false;
        return true;
    }

    private boolean tyresHelp(int set) {
        trial.copy(now.state);
        for (int guest = 0; guest < park.guests; guest++) {
            if ((set >> guest & 1) != 0) {
                park.cheer(trial, guest);
            }
        }
        clock.pass(park, trial, true);
        return trial.pacing(park.guests) == 0;
    }

    private static int kindsInAll(int sets) {
        int kinds = SETS - 1;
        for (int set = 0; set < SETS; set++) {
            if ((sets >> set & 1) != 0) {
                kinds &= set;
            }
        }
        return kinds;
    }

    private static int kindsInSome(int sets) {
        int kinds = 0;
        for (int set = 0; set < SETS; set++) {
            if ((sets >> set & 1) != 0) {
                kinds |= set;
            }
        }
        return kinds;
    }

    private static int smallestSet(int sets) {
        int answer = NONE;
        int fewest = KINDS + 1;
        for (int set = 0; set < SETS; set++) {
            if ((sets >> set & 1) != 0 && Integer.bitCount(set) < fewest) {
                fewest = Integer.bitCount(set);
                answer = set;
            }
        }
        return answer;
    }

    private static int gain(int animals, int cost, int price, int otherPrice) {
        int buyers = price < otherPrice ? animals : price == otherPrice ? animals / 2 : 0;
        return (price - cost) * buyers;
    }

    private static boolean isRest(int animals, int cost, int first, int other) {
        for (int price = 1; price <= TOP_PRICE; price++) {
            if (gain(animals, cost, price, other) > gain(animals, cost, first, other)
                || gain(animals, cost, price, first) > gain(animals, cost, other, first)) {
                return false;
            }
        }
        return true;
    }

    /** What an hour changes. */
    private static final class State {
        int hour;
        int taken;
        final int[] where = new int[GUESTS];
        final int[] mood = new int[GUESTS];
        final int[] coins = new int[ANIMALS];

        void copy(State other) {
            hour = other.hour;
            taken = other.taken;
            System.arraycopy(other.where, 0, where, 0, GUESTS);
            System.arraycopy(other.mood, 0, mood, 0, GUESTS);
            System.arraycopy(other.coins, 0, coins, 0, ANIMALS);
        }

        int pacing(int guests) {
            int bits = 0;
            for (int guest = 0; guest < guests; guest++) {
                if (mood[guest] == 0) {
                    bits |= 1 << guest;
                }
            }
            return bits;
        }

        int guestsIn(int pen, int guests) {
            int bits = 0;
            for (int guest = 0; guest < guests; guest++) {
                if (where[guest] == pen) {
                    bits |= 1 << guest;
                }
            }
            return bits;
        }

        int moodsTogether(int guests) {
            int sum = 0;
            for (int guest = 0; guest < guests; guest++) {
                sum += mood[guest];
            }
            return sum;
        }

        int coinsTogether(int animals) {
            int sum = 0;
            for (int animal = 0; animal < animals; animal++) {
                sum += coins[animal];
            }
            return sum;
        }
    }

    /** What a mark holds: the state, the days, and what is told as the sets that it leaves. */
    private static final class Memory {
        final State state = new State();
        final int[] lines = new int[LINES];
        int lineCount;
        int toldCount;
        int sets = ALL_SETS;
        boolean laid;

        void begin(State start) {
            state.copy(start);
            lineCount = 0;
            toldCount = 0;
            sets = ALL_SETS;
        }

        void takeDays(int[] newLines, int count) {
            System.arraycopy(newLines, 0, lines, 0, LINES);
            lineCount = count;
        }

        void copy(Memory other) {
            state.copy(other.state);
            takeDays(other.lines, other.lineCount);
            toldCount = other.toldCount;
            sets = other.sets;
        }
    }

    /** What a zoo text tells. Both laws are kept as tables: their facts have few values. */
    private static final class Zoo {
        int pens;
        int guests;
        int animals;
        int paths;
        int feedingHour;
        int tyreMood;
        int tyreCost;
        int rainOdds;
        // The words of the lines that may stand once, as bits.
        int once;
        final long[] penNames = new long[PENS];
        final long[] guestNames = new long[GUESTS];
        final long[] animalNames = new long[ANIMALS];
        final int[] seats = new int[PENS];
        final int[] kinds = new int[GUESTS];
        final int[] likes = new int[ANIMALS];
        final int[] foes = new int[GUESTS];
        // Minutes of the paths told, FAR where there is none; of the shortest ways, when all is told.
        final int[] minutes = new int[PENS * PENS];
        final int[] worths = new int[2 * MOODS * GUESTS];
        final int[] moods = new int[2 * MOODS * GUESTS * (ANIMALS + 1)];
        final State start = new State();

        void clear() {
            pens = 0;
            guests = 0;
            animals = 0;
            paths = 0;
            feedingHour = 3;
            tyreMood = 3;
            tyreCost = 5;
            rainOdds = 0;
            once = 0;
            for (int i = 0; i < PENS * PENS; i++) {
                minutes[i] = FAR;
            }
            for (int i = 0; i < GUESTS; i++) {
                foes[i] = 0;
            }
        }

        void close() {
            if ((once >> W_SEES & 1) == 0) {
                plainWorths();
            }
            if ((once >> W_MOODS & 1) == 0) {
                plainMoods();
            }
            shortenWays();
        }

        private void plainWorths() {
            for (int i = 0; i < worths.length; i++) {
                int liked = i / (MOODS * GUESTS);
                int humour = i / GUESTS % MOODS;
                worths[i] = within(liked * 5 + humour - i % GUESTS, TOP_WORTH);
            }
        }

        private void plainMoods() {
            for (int i = 0; i < moods.length; i++) {
                int watched = i % (ANIMALS + 1);
                int others = i / (ANIMALS + 1) % GUESTS;
                int humour = i / ((ANIMALS + 1) * GUESTS) % MOODS;
                int fed = i / ((ANIMALS + 1) * GUESTS * MOODS);
                moods[i] = within(humour - 1 + watched + fed * 2 - others, TOP_MOOD);
            }
        }

        void lawOfSees(Formula law) {
            for (int i = 0; i < worths.length; i++) {
                law.facts[LIKED] = i / (MOODS * GUESTS);
                law.facts[HUMOUR] = i / GUESTS % MOODS;
                law.facts[OTHERS] = i % GUESTS;
                worths[i] = within(law.value(), TOP_WORTH);
            }
        }

        void lawOfMoods(Formula law) {
            for (int i = 0; i < moods.length; i++) {
                law.facts[WATCHED] = i % (ANIMALS + 1);
                law.facts[OTHERS] = i / (ANIMALS + 1) % GUESTS;
                law.facts[HUMOUR] = i / ((ANIMALS + 1) * GUESTS) % MOODS;
                law.facts[FED] = i / ((ANIMALS + 1) * GUESTS * MOODS);
                moods[i] = within(law.value(), TOP_MOOD);
            }
        }

        private static int within(int value, int top) {
            return Math.max(0, Math.min(top, value));
        }

        private void shortenWays() {
            for (int i = 0; i < PENS; i++) {
                minutes[i * PENS + i] = 0;
            }
            for (int by = 0; by < PENS; by++) {
                for (int i = 0; i < PENS * PENS; i++) {
                    int detour = minutes[i / PENS * PENS + by] + minutes[by * PENS + i % PENS];
                    minutes[i] = Math.min(minutes[i], detour);
                }
            }
        }

        int worthAt(int liked, int mood, int others) {
            return worths[(liked * MOODS + mood) * GUESTS + others];
        }

        int moodAt(int fed, int mood, int others, int watched) {
            return moods[((fed * MOODS + mood) * GUESTS + others) * (ANIMALS + 1) + watched];
        }

        // The sets of kinds by which an animal comes to see this guest alone.
        int setsDrawnBy(int guest, int mood) {
            int drawn = 0;
            for (int set = 0; set < SETS; set++) {
                if (worthAt(set >> kinds[guest] & 1, mood, 0) > 0) {
                    drawn |= 1 << set;
                }
            }
            return drawn;
        }

        int foePairs() {
            int ends = 0;
            for (int guest = 0; guest < guests; guest++) {
                ends += Integer.bitCount(foes[guest]);
            }
            return ends / 2;
        }

        boolean canGo(State state, int guest, int pen) {
            return state.where[guest] != pen && (state.guestsIn(pen, guests) & foes[guest]) == 0;
        }

        void cheer(State state, int guest) {
            state.mood[guest] = Math.min(TOP_MOOD, state.mood[guest] + tyreMood);
        }
    }

    /** The signs that wait to be read, and the token at hand while they are. */
    private static final class Tape {
        // Kinds of token; a sign's kind is the sign itself.
        private static final int END = 0;
        private static final int WORD = 1;
        private static final int NUMBER = 2;
        private static final int BAD = 3;

        final byte[] signs = new byte[TAPE];
        final long[] words = new long[WORD_COUNT];
        int size;
        int fault;
        int place;
        int after;
        int kind;
        long name;
        // Which of WORDS the name is, or NONE.
        int word;
        int number;

        Tape() {
            int at = 0;
            for (int i = 0; i < WORDS.length() && at < WORD_COUNT; i++) {
                char sign = WORDS.charAt(i);
                if (sign == ' ') {
                    at++;
                } else {
                    words[at] = longer(words[at], sign);
                }
            }
        }

        // Names of eight letters at most are told apart by one number each.
        private static long longer(long name, int letter) {
            return name * 27 + (letter - 'a' + 1);
        }

        void addAll(long eight) {
            for (int shift = 56; shift >= 0; shift -= 8) {
                int sign = (int) (eight >>> shift) & 255;
                boolean known = sign == '\n' || (sign >= ' ' && sign <= '~');
                if (known && size < TAPE) {
                    signs[size] = (byte) sign;
                    size++;
                }
            }
        }

        void begin() {
            fault = 0;
            after = 0;
            step();
        }

        int empty() {
            size = 0;
            return fault;
        }

        boolean fail(int how) {
            fault = how + 16 * place;
            return false;
        }

        void step() {
            while (after < size && (signs[after] == ' ' || signs[after] == '\n')) {
                after++;
            }
            place = after;
            if (after >= size) {
                kind = END;
            } else if (isLetter(signs[after])) {
                readWord();
            } else if (isDigit(signs[after])) {
                readNumber();
            } else {
                kind = isSign(signs[after]) ? signs[after] : BAD;
                after++;
            }
        }

        private void readWord() {
            name = 0;
            while (after < size && isLetter(signs[after])) {
                name = longer(name, signs[after]);
                after++;
            }
            kind = after - place <= LONGEST_WORD ? WORD : BAD;
            word = NONE;
            for (int i = 0; i < WORD_COUNT; i++) {
                if (words[i] == name) {
                    word = i;
                }
            }
        }

        private void readNumber() {
            number = 0;
            while (after < size && isDigit(signs[after])) {
                number = number * 10 + (signs[after] - '0');
                after++;
            }
            kind = after - place <= LONGEST_NUMBER ? NUMBER : BAD;
        }

        private static boolean isLetter(int sign) {
            return sign >= 'a' && sign <= 'z';
        }

        private static boolean isDigit(int sign) {
            return sign >= '0' && sign <= '9';
        }

        private static boolean isSign(int sign) {
            return sign == '(' || sign == ')' || sign == '<' || sign == '=' || sign == '+' || sign == '-'
                || sign == '*' || sign == ';';
        }

        boolean isWord(int which) {
            return kind == WORD && word == which;
        }

        boolean isName() {
            return kind == WORD && (word == NONE || word >= W_LIKED);
        }

        boolean passWord(int which) {
            if (!isWord(which)) {
                return fail(MISPLACED);
            }
            step();
            return true;
        }

        boolean passSign(int sign) {
            if (kind != sign) {
                return fail(MISPLACED);
            }
            step();
            return true;
        }
    }

    /** A law: read from the tape into steps for a stack, and worked out for the facts. */
    private static final class Formula {
        // A step of 0 or more puts that number on the stack; -1 and below, down to -FACTS, puts a fact.
        private static final int NOT = -10;
        private static final int AND = -11;
        private static final int OR = -12;
        private static final int LESS = -13;
        private static final int SAME = -14;
        private static final int PLUS = -15;
        private static final int MINUS = -16;
        private static final int TIMES = -17;
        // Four values wait in each of the five depths at most.
        private static final int STACK = 32;

        final Tape tape;
        final int[] facts = new int[FACTS];
        final int[] steps = new int[TAPE];
        final int[] stack = new int[STACK];
        int size;
        int allowed;

        Formula(Tape tape) {
            this.tape = tape;
        }

        void begin(int allowedFacts) {
            allowed = allowedFacts;
            size = 0;
        }

        private void put(int step) {
            if (size < TAPE) {
                steps[size] = step;
                size++;
            }
        }

        boolean readTests(int depth) {
            boolean good = readTest(depth);
            for (int i = 0; good && i < TAPE && (tape.isWord(W_AND) || tape.isWord(W_OR)); i++) {
                int step = tape.word == W_AND ? AND : OR;
                tape.step();
                good = readTest(depth);
                put(step);
            }
            return good;
        }

        private boolean readTest(int depth) {
            boolean good = readSum(depth);
            if (good && (tape.kind == '<' || tape.kind == '=')) {
                int step = tape.kind == '<' ? LESS : SAME;
                tape.step();
                good = readSum(depth);
                put(step);
            }
            return good;
        }

        private boolean readSum(int depth) {
            boolean good = readProduct(depth);
            for (int i = 0; good && i < TAPE && (tape.kind == '+' || tape.kind == '-'); i++) {
                int step = tape.kind == '+' ? PLUS : MINUS;
                tape.step();
                good = readProduct(depth);
                put(step);
            }
            return good;
        }

        private boolean readProduct(int depth) {
            boolean good = readPart(depth);
            for (int i = 0; good && i < TAPE && tape.kind == '*'; i++) {
                tape.step();
                good = readPart(depth);
                put(TIMES);
            }
            return good;
        }

        private boolean readPart(int depth) {
            boolean fact = isFact();
            boolean open = tape.kind == '(';
            boolean not = tape.isWord(W_NOT);
            if (!fact && !open && !not && tape.kind != Tape.NUMBER) {
                return tape.fail(MISPLACED);
            }
            if (depth >= DEEPEST) {
                return tape.fail(TOO_MANY);
            }
            if (fact || tape.kind == Tape.NUMBER) {
                put(fact ? W_LIKED - 1 - tape.word : tape.number);
                tape.step();
                return true;
            }
            tape.step();
            boolean good = open ? readTests(depth + 1) : readPart(depth + 1);
            if (not) {
                put(NOT);
            } else if (good && tape.kind != ')') {
                good = tape.fail(MISPLACED);
            } else if (good) {
                tape.step();
            }
            return good;
        }

        private boolean isFact() {
            return tape.kind == Tape.WORD && tape.word >= W_LIKED && (allowed >> tape.word - W_LIKED & 1) != 0;
        }

        int value() {
            int top = 0;
            for (int i = 0; i < size; i++) {
                int step = steps[i];
                if (step > NOT) {
                    if (top < STACK) {
                        stack[top] = step >= 0 ? step : factAt(-1 - step);
                        top++;
                    }
                } else if (step == NOT) {
                    if (top >= 1) {
                        stack[top - 1] = stack[top - 1] == 0 ? 1 : 0;
                    }
                } else if (top >= 2) {
                    top--;
                    stack[top - 1] = joined(step, stack[top - 1], stack[top]);
                }
            }
            return stack[0];
        }

        private int factAt(int fact) {
            return fact < FACTS ? facts[fact] : 0;
        }

        private static int joined(int step, int left, int right) {
            switch (step) {
                case AND:
                    return left != 0 && right != 0 ? 1 : 0;
                case OR:
                    return left != 0 || right != 0 ? 1 : 0;
                case LESS:
                    return left < right ? 1 : 0;
                case SAME:
                    return left == right ? 1 : 0;
                case PLUS:
                    return left + right;
                case MINUS:
                    return left - right;
                default:
                    return left * right;
            }
        }
    }

    /** Reads the tape as a zoo, or as days. */
    private static final class Reader {
        final Tape tape;
        final Formula formula;
        final int[] lines = new int[LINES];
        int lineCount;
        // What the last pass of a number, a name or a kind has read.
        int number;
        long name;
        int found;
        int partner;

        Reader(Tape tape) {
            this.tape = tape;
            formula = new Formula(tape);
        }

        int readZoo(Zoo zoo) {
            zoo.clear();
            tape.begin();
            boolean good = true;
            for (int i = 0; i <= TAPE && good && tape.kind != Tape.END; i++) {
                good = readLine(zoo) && tape.passSign(';');
            }
            if (good) {
                zoo.close();
            }
            return tape.empty();
        }

        private boolean readLine(Zoo zoo) {
            if (tape.kind != Tape.WORD) {
                return tape.fail(MISPLACED);
            }
            switch (tape.word) {
                case W_PEN:
                    return readPen(zoo);
                case W_PATH:
                    return readPath(zoo);
                case W_GUEST:
                    return readGuest(zoo);
                case W_ANIMAL:
                    return readAnimal(zoo);
                case W_FOE:
                    return readFoe(zoo);
                case W_FEEDS:
                    return isFirst(zoo) && readFeeds(zoo);
                case W_TYRE:
                    return isFirst(zoo) && readTyre(zoo);
                case W_RAIN:
                    return isFirst(zoo) && readRain(zoo);
                case W_SEES:
                    return isFirst(zoo) && readSees(zoo);
                case W_MOODS:
                    return isFirst(zoo) && readMoods(zoo);
                default:
                    return tape.fail(MISPLACED);
            }
        }

        private boolean readPen(Zoo zoo) {
            if (zoo.pens >= PENS) {
                return tape.fail(TOO_MANY);
            }
            tape.step();
            if (!passNewName(zoo) || !tape.passWord(W_SEATS) || !passNumber(0, TOP_SEATS)) {
                return false;
            }
            zoo.penNames[zoo.pens] = name;
            zoo.seats[zoo.pens] = number;
            zoo.pens++;
            return true;
        }

        private boolean readPath(Zoo zoo) {
            if (!isPair(zoo.penNames, zoo.pens)) {
                return false;
            }
            int there = partner * PENS + found;
            int back = found * PENS + partner;
            if (zoo.minutes[there] < FAR) {
                return tape.fail(TWICE);
            }
            tape.step();
            if (!passNumber(1, TOP_MINUTES)) {
                return false;
            }
            zoo.minutes[there] = number;
            zoo.minutes[back] = number;
            zoo.paths++;
            return true;
        }

        private boolean readGuest(Zoo zoo) {
            if (zoo.guests >= GUESTS) {
                return tape.fail(TOO_MANY);
            }
            tape.step();
            if (!passNewName(zoo) || !passKind() || !tape.passWord(W_MOOD)) {
                return false;
            }
            int kind = found;
            if (!passNumber(0, TOP_MOOD) || !tape.passWord(W_IN) || !isTold(zoo.penNames, zoo.pens)) {
                return false;
            }
            tape.step();
            zoo.guestNames[zoo.guests] = name;
            zoo.kinds[zoo.guests] = kind;
            zoo.start.mood[zoo.guests] = number;
            zoo.start.where[zoo.guests] = found;
            zoo.guests++;
            return true;
        }

        private boolean readAnimal(Zoo zoo) {
            if (zoo.animals >= ANIMALS) {
                return tape.fail(TOO_MANY);
            }
            tape.step();
            if (!passNewName(zoo) || !tape.passWord(W_LIKES) || !passKind()) {
                return false;
            }
            if (!tape.passWord(W_COINS) || !passNumber(0, TOP_COINS)) {
                return false;
            }
            zoo.animalNames[zoo.animals] = name;
            zoo.likes[zoo.animals] = found;
            zoo.start.coins[zoo.animals] = number;
            zoo.animals++;
            return true;
        }

        private boolean readFoe(Zoo zoo) {
            if (!isPair(zoo.guestNames, zoo.guests)) {
                return false;
            }
            if ((zoo.foes[partner] >> found & 1) != 0) {
                return tape.fail(TWICE);
            }
            tape.step();
            zoo.foes[partner] |= 1 << found;
            zoo.foes[found] |= 1 << partner;
            return true;
        }

        private boolean isFirst(Zoo zoo) {
            if ((zoo.once >> tape.word & 1) != 0) {
                return tape.fail(TWICE);
            }
            zoo.once |= 1 << tape.word;
            return true;
        }

        private boolean readFeeds(Zoo zoo) {
            tape.step();
            boolean good = passNumber(0, CLOCK - 1);
            zoo.feedingHour = number;
            return good;
        }

        private boolean readTyre(Zoo zoo) {
            tape.step();
            if (!passNumber(1, TOP_MOOD)) {
                return false;
            }
            zoo.tyreMood = number;
            boolean good = tape.passWord(W_COSTS) && passNumber(0, TOP_TYRE_COST);
            zoo.tyreCost = number;
            return good;
        }

        private boolean readRain(Zoo zoo) {
            tape.step();
            boolean good = passNumber(0, ODDS);
            zoo.rainOdds = number;
            return good;
        }

        private boolean readSees(Zoo zoo) {
            tape.step();
            formula.begin(FACTS_OF_SEES);
            if (!formula.readTests(0)) {
                return false;
            }
            zoo.lawOfSees(formula);
            return true;
        }

        private boolean readMoods(Zoo zoo) {
            tape.step();
            formula.begin(FACTS_OF_MOODS);
            if (!formula.readTests(0)) {
                return false;
            }
            zoo.lawOfMoods(formula);
            return true;
        }

        int readDays(Zoo zoo) {
            lineCount = 0;
            tape.begin();
            boolean good = true;
            for (int i = 0; i <= LINES && good && tape.kind != Tape.END; i++) {
                good = readDay(zoo) && tape.passSign(';');
            }
            return tape.empty();
        }

        private boolean readDay(Zoo zoo) {
            boolean moves = tape.isWord(W_MOVE);
            boolean tyres = tape.isWord(W_TYRE);
            if (!moves && !tyres && !tape.isWord(W_HOUR)) {
                return tape.fail(MISPLACED);
            }
            if (lineCount >= LINES) {
                return tape.fail(TOO_MANY);
            }
            tape.step();
            int line = HOUR;
            if (moves || tyres) {
                if (!isTold(zoo.guestNames, zoo.guests)) {
                    return false;
                }
                tape.step();
                line = lineOf(TYRE, found, 0);
            }
            if (moves) {
                int guest = found;
                if (!isTold(zoo.penNames, zoo.pens)) {
                    return false;
                }
                tape.step();
                line = lineOf(MOVE, guest, found);
            }
            lines[lineCount] = line;
            lineCount++;
            return true;
        }

        private boolean passNumber(int least, int most) {
            if (tape.kind != Tape.NUMBER) {
                return tape.fail(MISPLACED);
            }
            if (tape.number < least || tape.number > most) {
                return tape.fail(OUT_OF_RANGE);
            }
            number = tape.number;
            tape.step();
            return true;
        }

        private boolean passKind() {
            if (tape.kind != Tape.WORD || tape.word < W_PLAIN || tape.word >= W_PLAIN + KINDS) {
                return tape.fail(MISPLACED);
            }
            found = tape.word - W_PLAIN;
            tape.step();
            return true;
        }

        private boolean passNewName(Zoo zoo) {
            if (!tape.isName()) {
                return tape.fail(MISPLACED);
            }
            if (placeOf(zoo.penNames, zoo.pens) != NONE || placeOf(zoo.guestNames, zoo.guests) != NONE
                || placeOf(zoo.animalNames, zoo.animals) != NONE) {
                return tape.fail(TWICE);
            }
            name = tape.name;
            tape.step();
            return true;
        }

        // It does not step on: the token may still be wrong in another way.
        private boolean isTold(long[] names, int count) {
            if (!tape.isName()) {
                return tape.fail(MISPLACED);
            }
            found = placeOf(names, count);
            return found != NONE || tape.fail(UNKNOWN);
        }

        // Two names that are told and not the same, partner and found; it stays at the second.
        private boolean isPair(long[] names, int count) {
            tape.step();
            if (!isTold(names, count)) {
                return false;
            }
            partner = found;
            tape.step();
            return isTold(names, count) && (found != partner || tape.fail(TWICE));
        }

        private int placeOf(long[] names, int count) {
            for (int i = 0; i < count && i < names.length; i++) {
                if (names[i] == tape.name) {
                    return i;
                }
            }
            return NONE;
        }
    }

    /** One hour: what each pen is worth, who goes where, what is paid, and the moods behind it. */
    private static final class Hour {
        final int[] crowd = new int[PENS];
        // A pen's worth to one that likes nobody in it, and what each kind adds if it is liked.
        final int[] plainWorth = new int[PENS];
        final int[] likedWorth = new int[KINDS * PENS];
        final int[] seatsLeft = new int[PENS];
        final int[] watchers = new int[PENS];
        final int[] chosen = new int[ANIMALS];
        final int[] paid = new int[ANIMALS];
        final int[] moodAfter = new int[GUESTS];
        int taken;

        void weigh(Zoo zoo, State state) {
            for (int pen = 0; pen < PENS; pen++) {
                crowd[pen] = 0;
                plainWorth[pen] = 0;
            }
            for (int i = 0; i < KINDS * PENS; i++) {
                likedWorth[i] = 0;
            }
            for (int guest = 0; guest < zoo.guests; guest++) {
                crowd[state.where[guest]]++;
            }
            for (int guest = 0; guest < zoo.guests; guest++) {
                int pen = state.where[guest];
                int plain = zoo.worthAt(0, state.mood[guest], crowd[pen] - 1);
                int liked = zoo.worthAt(1, state.mood[guest], crowd[pen] - 1);
                plainWorth[pen] += plain;
                likedWorth[zoo.kinds[guest] * PENS + pen] += liked - plain;
            }
        }

        int worthTo(int likedKinds, int pen) {
            int worth = plainWorth[pen];
            for (int kind = 0; kind < KINDS; kind++) {
                if ((likedKinds >> kind & 1) != 0) {
                    worth += likedWorth[kind * PENS + pen];
                }
            }
            return worth;
        }

        private void freeSeats(Zoo zoo) {
            for (int pen = 0; pen < PENS; pen++) {
                seatsLeft[pen] = zoo.seats[pen];
                watchers[pen] = 0;
            }
        }

        private int choice(Zoo zoo, int likedKinds) {
            int answer = NONE;
            int most = 0;
            for (int pen = 0; pen < zoo.pens; pen++) {
                int worth = seatsLeft[pen] > 0 ? worthTo(likedKinds, pen) : 0;
                if (worth > most) {
                    most = worth;
                    answer = pen;
                }
            }
            return answer;
        }

        void foresee(Zoo zoo, State state, boolean dry) {
            weigh(zoo, state);
            freeSeats(zoo);
            taken = 0;
            for (int animal = 0; animal < zoo.animals; animal++) {
                int likedKinds = 1 << zoo.likes[animal];
                int pen = dry ? choice(zoo, likedKinds) : NONE;
                chosen[animal] = pen;
                paid[animal] = 0;
                if (pen != NONE) {
                    paid[animal] = Math.min(state.coins[animal], worthTo(likedKinds, pen));
                    seatsLeft[pen]--;
                    watchers[pen] |= 1 << animal;
                }
                taken += paid[animal];
            }
            int fed = state.hour % CLOCK == zoo.feedingHour ? 1 : 0;
            for (int guest = 0; guest < zoo.guests; guest++) {
                int pen = state.where[guest];
                int watched = Integer.bitCount(watchers[pen]);
                moodAfter[guest] = zoo.moodAt(fed, state.mood[guest], crowd[pen] - 1, watched);
            }
        }

        void pass(Zoo zoo, State state, boolean dry) {
            foresee(zoo, state, dry);
            for (int animal = 0; animal < zoo.animals; animal++) {
                state.coins[animal] -= paid[animal];
            }
            for (int guest = 0; guest < zoo.guests; guest++) {
                state.mood[guest] = moodAfter[guest];
            }
            state.taken += taken;
            state.hour++;
        }

        int pacingAfter(int guests) {
            int many = 0;
            for (int guest = 0; guest < guests; guest++) {
                if (moodAfter[guest] == 0) {
                    many++;
                }
            }
            return many;
        }

        // The sets of kinds by which one more animal, alone with all seats, would choose this pen (or NONE).
        int setsChoosing(Zoo zoo, State state, int pen) {
            weigh(zoo, state);
            freeSeats(zoo);
            int sets = 0;
            for (int set = 0; set < SETS; set++) {
                if (choice(zoo, set) == pen) {
                    sets |= 1 << set;
                }
            }
            return sets;
        }

        // Does a line of the days to the state; false, and nothing is changed, if it can't be.
        boolean obey(Zoo zoo, State state, int line) {
            int guest = line >> 2 & 7;
            int pen = line >> 5 & 7;
            switch (line & 3) {
                case MOVE:
                    if (guest >= zoo.guests || pen >= zoo.pens || !zoo.canGo(state, guest, pen)) {
                        return false;
                    }
                    state.where[guest] = pen;
                    return true;
                case TYRE:
                    if (guest >= zoo.guests || state.taken < zoo.tyreCost) {
                        return false;
                    }
                    zoo.cheer(state, guest);
                    state.taken -= zoo.tyreCost;
                    return true;
                default:
                    pass(zoo, state, true);
                    return true;
            }
        }
    }

    /** The best way to have the guests in pens for an hour now. */
    private static final class Show {
        final Hour clock = new Hour();
        final State way = new State();
        final int[] row = new int[GUESTS];
        // The guests in each pen of the way so far, as bits.
        final int[] held = new int[PENS];
        // By how many guests have a pen, a kind and who is in a pen: what that can be worth at the most in the end.
        final int[] most = new int[(GUESTS + 1) * KINDS * CROWDS];
        boolean fresh;
        boolean found;
        int taken;
        int pacing;

        void search(Zoo zoo, State state) {
            fresh = true;
            found = false;
            way.copy(state);
            for (int pen = 0; pen < PENS; pen++) {
                held[pen] = 0;
            }
            for (int kind = 0; kind < KINDS; kind++) {
                weighCrowds(zoo, kind);
            }
            place(zoo, 0);
        }

        private static int spot(int placed, int kind, int crowd) {
            return (placed * KINDS + kind) * CROWDS + crowd;
        }

        private void weighCrowds(Zoo zoo, int kind) {
            for (int crowd = 0; crowd < 1 << zoo.guests; crowd++) {
                most[spot(zoo.guests, kind, crowd)] = worthOf(zoo, kind, crowd);
            }
            for (int guest = zoo.guests - 1; guest >= 0; guest--) {
                for (int crowd = 0; crowd < 1 << guest; crowd++) {
                    int without = most[spot(guest + 1, kind, crowd)];
                    int with = most[spot(guest + 1, kind, crowd | 1 << guest)];
                    most[spot(guest, kind, crowd)] = Math.max(without, with);
                }
            }
        }

        private int worthOf(Zoo zoo, int kind, int crowd) {
            int others = Integer.bitCount(crowd) - 1;
            int worth = 0;
            for (int guest = 0; guest < zoo.guests; guest++) {
                if ((crowd >> guest & 1) != 0) {
                    worth += zoo.worthAt(zoo.kinds[guest] == kind ? 1 : 0, way.mood[guest], others);
                }
            }
            return worth;
        }

        private void place(Zoo zoo, int guest) {
            if (found && !canBeat(hope(zoo, guest))) {
                return;
            }
            if (guest >= zoo.guests) {
                judge(zoo);
                return;
            }
            for (int pen = 0; pen < zoo.pens; pen++) {
                if ((held[pen] & zoo.foes[guest]) == 0) {
                    way.where[guest] = pen;
                    held[pen] |= 1 << guest;
                    place(zoo, guest + 1);
                    held[pen] &= ~(1 << guest);
                }
            }
        }

        // What is taken at the most if these guests stay where they are: as if all animals had a seat at their best pen.
        private int hope(Zoo zoo, int placed) {
            int sum = 0;
            for (int animal = 0; animal < zoo.animals; animal++) {
                int best = 0;
                for (int pen = 0; pen < zoo.pens; pen++) {
                    if (zoo.seats[pen] > 0) {
                        best = Math.max(best, most[spot(placed, zoo.likes[animal], held[pen])]);
                    }
                }
                sum += Math.min(best, way.coins[animal]);
            }
            return sum;
        }

        // The rows come in their order, so an equal one that comes later is not taken.
        private boolean canBeat(int hoped) {
            return hoped > taken || (hoped == taken && pacing > 0);
        }

        private void judge(Zoo zoo) {
            clock.foresee(zoo, way, true);
            int paces = clock.pacingAfter(zoo.guests);
            if (!found || clock.taken > taken || (clock.taken == taken && paces < pacing)) {
                found = true;
                taken = clock.taken;
                pacing = paces;
                System.arraycopy(way.where, 0, row, 0, GUESTS);
            }
        }
    }

    /** What comes by rain: chances over all weathers, and years by draws. */
    private static final class Weather {
        final Hour clock = new Hour();
        final State[] ahead = new State[MOST_RAIN];
        int takenInAll;
        int pacedInAll;
        long drawn;

        Weather() {
            for (int i = 0; i < MOST_RAIN; i++) {
                ahead[i] = new State();
            }
        }

        int chance(Zoo zoo, State from, int guest, int hours) {
            int watched = guest == NONE ? (1 << GUESTS) - 1 : 1 << guest;
            return chanceBehind(zoo, from, watched, hours, MILLION);
        }

        // The weight can be cut in tenths six times, once for each hour, without a rest.
        private int chanceBehind(Zoo zoo, State from, int watched, int hours, int weight) {
            if (hours < 1 || hours > MOST_RAIN) {
                return 0;
            }
            State behind = ahead[hours - 1];
            int sum = 0;
            for (int wet = 0; wet < 2; wet++) {
                int share = weight / ODDS * (wet == 1 ? zoo.rainOdds : ODDS - zoo.rainOdds);
                if (share == 0) {
                    continue;
                }
                behind.copy(from);
                clock.pass(zoo, behind, wet == 0);
                if ((behind.pacing(zoo.guests) & watched) != 0) {
                    sum += share;
                } else {
                    sum += chanceBehind(zoo, behind, watched, hours - 1, share);
                }
            }
            return sum;
        }

        void liveOn(Zoo zoo, State state, int seed, int hours) {
            drawn = seed;
            takenInAll = 0;
            pacedInAll = 0;
            for (int i = 0; i < hours; i++) {
                if (zoo.guests > 0 && zoo.pens > 0) {
                    int guest = draw(zoo.guests);
                    int pen = draw(zoo.pens);
                    clock.obey(zoo, state, lineOf(MOVE, guest, pen));
                }
                clock.pass(zoo, state, draw(ODDS) >= zoo.rainOdds);
                takenInAll += clock.taken;
                pacedInAll += Integer.bitCount(state.pacing(zoo.guests));
            }
        }

        private int draw(int below) {
            drawn = (drawn * 1103515245L + 12345L) % 2147483648L;
            return below > 0 ? (int) (drawn / 65536L % below) : 0;
        }
    }

    /** Searches for the first row: of pens on a walk, of guests kept apart. */
    private static final class Rows {
        final int[] row = new int[GUESTS];
        final int[] steps = new int[PENS];
        final int[] order = new int[PENS];
        int length;
        int minutes;

        void walkFrom(Zoo zoo, State state, int pen) {
            int goals = 0;
            for (int guest = 0; guest < zoo.guests; guest++) {
                goals |= 1 << state.where[guest];
            }
            length = Integer.bitCount(goals);
            minutes = FAR;
            walkOn(zoo, pen, goals, 0);
        }

        private void walkOn(Zoo zoo, int from, int goals, int walked) {
            if (goals == 0) {
                minutes = walked;
                System.arraycopy(steps, 0, order, 0, PENS);
                return;
            }
            int at = length - Integer.bitCount(goals);
            for (int pen = 0; pen < zoo.pens; pen++) {
                int sum = walked + zoo.minutes[from * PENS + pen];
                // Only what is shorter goes on, so the first of equal orders stays.
                if ((goals >> pen & 1) != 0 && sum < minutes && at >= 0) {
                    steps[at] = pen;
                    walkOn(zoo, pen, goals & ~(1 << pen), sum);
                }
            }
        }

        int keepApart(Zoo zoo) {
            for (int most = 0; most < zoo.guests; most++) {
                if (place(zoo, 0, 0, most)) {
                    return most;
                }
            }
            place(zoo, 0, 0, zoo.guests);
            return zoo.guests;
        }

        private boolean place(Zoo zoo, int guest, int used, int most) {
            if (guest >= zoo.guests) {
                return true;
            }
            for (int pen = 0; pen <= used && pen < most; pen++) {
                row[guest] = pen;
                if (!meetsFoe(zoo, guest) && place(zoo, guest + 1, Math.max(used, pen + 1), most)) {
                    return true;
                }
            }
            return false;
        }

        private boolean meetsFoe(Zoo zoo, int guest) {
            for (int other = 0; other < guest; other++) {
                if (row[other] == row[guest] && (zoo.foes[guest] >> other & 1) != 0) {
                    return true;
                }
            }
            return false;
        }
    }
}
