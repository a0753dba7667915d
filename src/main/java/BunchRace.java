/**
 * Races of riders in bunches, the stages made of them, and for one team the best of its choices of orders.
 *
 * Every row is made in the constructor and used again by each race: a long run of calls makes nothing more.
 */
public final class BunchRace {
    public static final int NONE = -1;

    private static final int TEAMS = 5;
    private static final int MOST_RIDERS = 20;
    private static final int MOST_STEADY = 60;
    private static final int MOST_FULL = 2000;
    private static final int MOST_CLIMB = 50;

    private static final int METRES_OF_KILOMETRE = 1000;
    private static final int MOST_KILOMETRES = 30;
    private static final int LEAST_RISE = -5;
    private static final int MOST_RISE = 10;
    private static final int LEAST_WIND = -3;
    private static final int MOST_WIND = 9;
    private static final int MOST_PRIMES = 5;

    private static final int MOST_BYTES = 100;
    private static final int BYTES_OF_WORD = 4;
    private static final int MOST_DIGITS = 3;
    /** A clause has five bytes at least and there is one between two of them, so no tape holds more. */
    private static final int MOST_CLAUSES = (MOST_BYTES + 1) / 6;

    private static final int MOST_CHOICES = 4;
    /** Rows of the order book: one for each team, then the choices, then the draft that is being read. */
    private static final int FIRST_CHOICE_ROW = TEAMS;
    private static final int DRAFT_ROW = TEAMS + MOST_CHOICES;
    private static final int ORDER_ROWS = DRAFT_ROW + 1;

    /** What a clause may ask for, as places in the row of a rider's values. */
    private static final int ASKS_STORE = 0;
    private static final int ASKS_KILOMETRES = 1;
    private static final int ASKS_GAP = 2;
    private static final int ASKS_RIDERS = 3;
    private static final int ASKS_PLACE = 4;
    private static final int ASKED_VALUES = 5;

    private static final int PACE_WITHOUT_ORDERS = 4;
    private static final int WIDEST_GAP = 20;
    private static final int MINUTES_HELD = 3;
    private static final int MOST_MINUTES = 400;
    private static final int SECONDS_OF_MINUTE = 60;
    private static final int LEAST_METRES_OF_MINUTE = 100;
    private static final long LOT_FACTOR = 6364136223846793005L;
    private static final long LOT_STEP = 1442695040888963407L;

    private static final int COUNTED_PLACES = 3;
    private static final int[] STAGE_POINTS = {10, 6, 4};
    private static final int MOST_STAGES = 20;
    private static final int FIRST_LIMIT = 20;
    private static final int SCORE_OF_LACKING = 40;

    private final Riders riders;
    private final Road road;
    private final Tape tape;
    private final OrderBook book;
    private final OrderReader reader;
    private final Race latest;
    private final RaceLog log;
    /** A race of its own, so that trying leaves the latest one as it was. */
    private final Race trial;
    private final Stages stages;
    private int choices;
    private boolean raced;
    private boolean kept;

    public BunchRace() {
        riders = new Riders();
        road = new Road();
        tape = new Tape();
        book = new OrderBook();
        reader = new OrderReader();
        latest = new Race();
        log = new RaceLog();
        trial = new Race();
        stages = new Stages();
        choices = 0;
        raced = false;
        kept = false;
    }

    public int rider(int team, int steady, int full, int climb) {
        if (stages.number > 0) {
            return NONE;
        }
        return riders.add(team, steady, full, climb);
    }

    public boolean road(int kilometres) {
        return road.renew(kilometres);
    }

    public boolean rise(int kilometre, int rise, int wind) {
        return road.shape(kilometre, rise, wind);
    }

    public int prime(int metre) {
        return road.addPrime(metre);
    }

    public boolean crash(int metre, int part) {
        return road.putCrash(metre, part);
    }

    public int feed(int a, int b, int c, int d, int e) {
        int more = tape.bytesIn(a) + tape.bytesIn(b) + tape.bytesIn(c) + tape.bytesIn(d) + tape.bytesIn(e);
        if (tape.length + more > MOST_BYTES) {
            return NONE;
        }
        tape.append(a);
        tape.append(b);
        tape.append(c);
        tape.append(d);
        tape.append(e);
        return tape.length;
    }

    public boolean end(int n) {
        if (n < 0 || n > tape.length) {
            return false;
        }
        tape.length = n;
        return true;
    }

    public int fault() {
        return reader.faultOf(tape, book);
    }

    public boolean orders(int team) {
        if (!isTeam(team) || reader.faultOf(tape, book) != NONE) {
            return false;
        }
        book.takeDraft(team);
        tape.length = 0;
        return true;
    }

    public int choice() {
        if (choices >= MOST_CHOICES || reader.faultOf(tape, book) != NONE) {
            return NONE;
        }
        book.takeDraft(FIRST_CHOICE_ROW + choices);
        tape.length = 0;
        choices++;
        return choices - 1;
    }

    public int race(long seed) {
        if (riders.number == 0) {
            return NONE;
        }
        latest.begin(riders, road, stages.out, seed);
        log.note(latest);
        for (int i = 0; i < MOST_MINUTES && latest.left > 0; i++) {
            latest.rideMinute(riders, road, book);
            log.note(latest);
        }
        raced = true;
        kept = false;
        return latest.minute;
    }

    public int told(int rider, int what) {
        if (!rodeLatest(rider)) {
            return NONE;
        }
        switch (what) {
            case 0:
                return latest.seconds[rider] == NONE ? 0 : 1;
            case 1:
                return latest.seconds[rider];
            case 2:
                return latest.placeOf(rider);
            case 3:
                return latest.metres[rider];
            case 4:
                return latest.store[rider];
            case 5:
                return latest.primePointsOf(rider);
            case 6:
                return latest.timesHeld[rider];
            case 7:
                return latest.work[rider];
            default:
                return NONE;
        }
    }

    public int at(int place) {
        if (!raced || place < 1) {
            return NONE;
        }
        return latest.riderAt(place);
    }

    public int passed(int prime, int place) {
        if (!raced || prime < 0 || prime >= latest.primes || place < 1 || place > COUNTED_PLACES) {
            return NONE;
        }
        return latest.riderAtPrime(prime, place);
    }

    public int metres(int rider, int minute) {
        if (!rodeLatest(rider) || !isLatestMinute(minute)) {
            return NONE;
        }
        return log.metres[minute * MOST_RIDERS + rider];
    }

    public int groups(int minute) {
        if (!raced || !isLatestMinute(minute)) {
            return NONE;
        }
        return log.groups[minute];
    }

    public int keep() {
        if (!raced || kept || stages.number >= MOST_STAGES) {
            return NONE;
        }
        kept = true;
        stages.addStage(latest, riders.number);
        return stages.number - 1;
    }

    public boolean limit(int part) {
        if (part < 1 || part > 100) {
            return false;
        }
        stages.limit = part;
        return true;
    }

    public int sum(int rider, int what) {
        if (rider < 0 || rider >= riders.number) {
            return NONE;
        }
        switch (what) {
            case 0:
                return stages.totals[rider];
            case 1:
                return stages.points[rider];
            case 2:
                return stages.out[rider] ? 1 : 0;
            case 3:
                return stages.standingOf(rider, riders.number);
            default:
                return NONE;
        }
    }

    public int team(int team) {
        if (!isTeam(team)) {
            return NONE;
        }
        return stages.lowestThreeOf(team, riders);
    }

    public int attempt(int team, int metre, int first, int then, long seed) {
        if (!canTry(team, metre) || !isChoice(first) || !isChoice(then)) {
            return NONE;
        }
        return scoreOfPair(team, metre, first, then, seed);
    }

    public int best(int team, int metre, long seed) {
        if (!canTry(team, metre) || choices == 0) {
            return NONE;
        }
        int bestPair = NONE;
        int lowest = 0;
        for (int a = 0; a < choices; a++) {
            for (int b = 0; b < choices; b++) {
                int score = scoreOfPair(team, metre, a, b, seed);
                if (bestPair == NONE || score < lowest) {
                    bestPair = 10 * a + b;
                    lowest = score;
                }
            }
        }
        return bestPair;
    }

    public int count(int what) {
        switch (what) {
            case 0:
                return riders.number;
            case 1:
                return road.kilometres;
            case 2:
                return road.primes;
            case 3:
                return stages.number;
            case 4:
                return choices;
            case 5:
                return tape.length;
            case 6:
                return stages.howManyOut(riders.number);
            case 7:
                return raced ? latest.minute : NONE;
            default:
                return NONE;
        }
    }

    private static boolean isTeam(int team) {
        return team >= 0 && team < TEAMS;
    }

    private boolean isChoice(int choice) {
        return choice >= 0 && choice < choices;
    }

    private boolean canTry(int team, int metre) {
        return isTeam(team) && road.isBetweenEnds(metre) && riders.number > 0;
    }

    private boolean rodeLatest(int rider) {
        return raced && rider >= 0 && rider < MOST_RIDERS && latest.rides[rider];
    }

    private boolean isLatestMinute(int minute) {
        return minute >= 0 && minute <= latest.minute && minute <= MOST_MINUTES;
    }

    private int scoreOfPair(int team, int metre, int first, int then, long seed) {
        trial.begin(riders, road, stages.out, seed);
        trial.orderRows[team] = FIRST_CHOICE_ROW + first;
        for (int i = 0; i < MOST_MINUTES && trial.left > 0; i++) {
            if (trial.foremostOf(team, riders) >= metre) {
                trial.orderRows[team] = FIRST_CHOICE_ROW + then;
            }
            trial.rideMinute(riders, road, book);
        }
        return trial.scoreOf(team, riders);
    }

    /** Those who were told, by number. */
    private static final class Riders {
        int number = 0;
        final int[] teams = new int[MOST_RIDERS];
        final int[] steady = new int[MOST_RIDERS];
        final int[] full = new int[MOST_RIDERS];
        final int[] climb = new int[MOST_RIDERS];

        int add(int itsTeam, int itsSteady, int itsFull, int itsClimb) {
            if (number >= MOST_RIDERS || !isTeam(itsTeam) || itsSteady < 1 || itsSteady > MOST_STEADY
                    || itsFull < 0 || itsFull > MOST_FULL || itsClimb < 0 || itsClimb > MOST_CLIMB) {
                return NONE;
            }
            teams[number] = itsTeam;
            steady[number] = itsSteady;
            full[number] = itsFull;
            climb[number] = itsClimb;
            number++;
            return number - 1;
        }
    }

    /** The road of the next race. */
    private static final class Road {
        int kilometres = 1;
        final int[] rises = new int[MOST_KILOMETRES];
        final int[] winds = new int[MOST_KILOMETRES];
        int primes = 0;
        final int[] primeMetres = new int[MOST_PRIMES];
        /** 0 without a crash: nobody passes metre 0, where all begin. */
        int crashMetre = 0;
        int crashPart = 0;

        int length() {
            return kilometres * METRES_OF_KILOMETRE;
        }

        boolean isBetweenEnds(int metre) {
            return metre >= 1 && metre < length();
        }

        boolean renew(int howMany) {
            if (howMany < 1 || howMany > MOST_KILOMETRES) {
                return false;
            }
            kilometres = howMany;
            for (int i = 0; i < MOST_KILOMETRES; i++) {
                rises[i] = 0;
                winds[i] = 0;
            }
            primes = 0;
            crashMetre = 0;
            crashPart = 0;
            return true;
        }

        boolean shape(int kilometre, int itsRise, int itsWind) {
            if (kilometre < 0 || kilometre >= kilometres || itsRise < LEAST_RISE || itsRise > MOST_RISE
                    || itsWind < LEAST_WIND || itsWind > MOST_WIND) {
                return false;
            }
            rises[kilometre] = itsRise;
            winds[kilometre] = itsWind;
            return true;
        }

        int addPrime(int metre) {
            if (primes >= MOST_PRIMES || !isBetweenEnds(metre)) {
                return NONE;
            }
            primeMetres[primes] = metre;
            primes++;
            return primes - 1;
        }

        boolean putCrash(int metre, int part) {
            if (!isBetweenEnds(metre) || part < 0 || part > 100) {
                return false;
            }
            crashMetre = metre;
            crashPart = part;
            return true;
        }
    }

    /** The bytes fed, from which orders are read. */
    private static final class Tape {
        int length = 0;
        final int[] bytes = new int[MOST_BYTES];

        int byteOf(int word, int place) {
            return (word >>> (8 * (BYTES_OF_WORD - 1 - place))) & 255;
        }

        int bytesIn(int word) {
            int found = 0;
            for (int i = 0; i < BYTES_OF_WORD; i++) {
                if (byteOf(word, i) != 0) {
                    found++;
                }
            }
            return found;
        }

        void append(int word) {
            for (int i = 0; i < BYTES_OF_WORD; i++) {
                int next = byteOf(word, i);
                if (next != 0 && length < MOST_BYTES) {
                    bytes[length] = next;
                    length++;
                }
            }
        }
    }

    /** Orders as clauses, in rows by number: a row's number is safe to hand about where a reference might be null. */
    private static final class OrderBook {
        final int[] clauses = new int[ORDER_ROWS];
        final int[] asked = new int[ORDER_ROWS * MOST_CLAUSES];
        final int[] signs = new int[ORDER_ROWS * MOST_CLAUSES];
        final int[] numbers = new int[ORDER_ROWS * MOST_CLAUSES];
        final int[] paces = new int[ORDER_ROWS * MOST_CLAUSES];

        void clearDraft() {
            clauses[DRAFT_ROW] = 0;
        }

        void draftClause(int itsAsked, int itsSign, int itsNumber, int itsPace) {
            if (clauses[DRAFT_ROW] >= MOST_CLAUSES) {
                return;
            }
            int place = DRAFT_ROW * MOST_CLAUSES + clauses[DRAFT_ROW];
            asked[place] = itsAsked;
            signs[place] = itsSign;
            numbers[place] = itsNumber;
            paces[place] = itsPace;
            clauses[DRAFT_ROW]++;
        }

        void takeDraft(int row) {
            int from = DRAFT_ROW * MOST_CLAUSES;
            int to = row * MOST_CLAUSES;
            for (int i = 0; i < MOST_CLAUSES; i++) {
                asked[to + i] = asked[from + i];
                signs[to + i] = signs[from + i];
                numbers[to + i] = numbers[from + i];
                paces[to + i] = paces[from + i];
            }
            clauses[row] = clauses[DRAFT_ROW];
        }

        int paceBy(int row, int[] values) {
            int from = row * MOST_CLAUSES;
            for (int i = 0; i < clauses[row]; i++) {
                if (holds(from + i, values[asked[from + i]])) {
                    return paces[from + i];
                }
            }
            return PACE_WITHOUT_ORDERS;
        }

        private boolean holds(int place, int value) {
            switch (signs[place]) {
                case '<':
                    return value < numbers[place];
                case '>':
                    return value > numbers[place];
                default:
                    return value == numbers[place];
            }
        }
    }

    /** Reads a tape byte by byte; what may come next depends on awaited alone. */
    private static final class OrderReader {
        private static final int LETTER_OR_NOTHING = 0;
        private static final int LETTER = 1;
        private static final int SIGN = 2;
        private static final int NUMBER = 3;
        private static final int MORE_DIGITS = 4;
        private static final int COLON = 5;
        private static final int PACE = 6;
        private static final int NEXT_CLAUSE = 7;

        private int awaited = LETTER_OR_NOTHING;
        private int askedNow = 0;
        private int signNow = 0;
        private int numberNow = 0;
        private int digitsNow = 0;

        /** Leaves the clauses as the book's draft, whole if there is no fault. */
        int faultOf(Tape tape, OrderBook book) {
            book.clearDraft();
            awaited = LETTER_OR_NOTHING;
            for (int i = 0; i < tape.length; i++) {
                if (!goesOn(tape.bytes[i], book)) {
                    return i;
                }
            }
            return awaited == LETTER_OR_NOTHING || awaited == NEXT_CLAUSE ? NONE : tape.length;
        }

        private boolean goesOn(int next, OrderBook book) {
            if (next == ' ') {
                if (awaited == MORE_DIGITS) {
                    awaited = COLON;
                }
                return true;
            }
            switch (awaited) {
                case LETTER_OR_NOTHING:
                case LETTER:
                    return takesLetter(next);
                case SIGN:
                    return takesSign(next);
                case NUMBER:
                    return takesFirstDigit(next);
                case MORE_DIGITS:
                    return takesDigit(next) || takesMark(next, ':', PACE);
                case COLON:
                    return takesMark(next, ':', PACE);
                case PACE:
                    return takesPace(next, book);
                default:
                    return takesMark(next, ';', LETTER);
            }
        }

        private boolean takesLetter(int next) {
            int found = askedBy(next);
            if (found == NONE) {
                return false;
            }
            askedNow = found;
            awaited = SIGN;
            return true;
        }

        private static int askedBy(int letter) {
            switch (letter) {
                case 's':
                    return ASKS_STORE;
                case 'k':
                    return ASKS_KILOMETRES;
                case 'g':
                    return ASKS_GAP;
                case 'n':
                    return ASKS_RIDERS;
                case 'p':
                    return ASKS_PLACE;
                default:
                    return NONE;
            }
        }

        private boolean takesSign(int next) {
            if (next != '=' && next != '<' && next != '>') {
                return false;
            }
            signNow = next;
            awaited = NUMBER;
            return true;
        }

        private boolean takesFirstDigit(int next) {
            numberNow = 0;
            digitsNow = 0;
            return takesDigit(next);
        }

        private boolean takesDigit(int next) {
            if (!isDigit(next) || digitsNow >= MOST_DIGITS) {
                return false;
            }
            numberNow = 10 * numberNow + next - '0';
            digitsNow++;
            awaited = MORE_DIGITS;
            return true;
        }

        private boolean takesPace(int next, OrderBook book) {
            if (!isDigit(next)) {
                return false;
            }
            book.draftClause(askedNow, signNow, numberNow, next - '0');
            awaited = NEXT_CLAUSE;
            return true;
        }

        private boolean takesMark(int next, int mark, int then) {
            if (next != mark) {
                return false;
            }
            awaited = then;
            return true;
        }

        private static boolean isDigit(int next) {
            return next >= '0' && next <= '9';
        }
    }

    /** How those on the road stand as a minute begins: their order and their groups. */
    private static final class Bunches {
        int onRoad = 0;
        int number = 0;
        final int[] order = new int[MOST_RIDERS];
        /** By rider: its place in its group, and how many that group has. */
        final int[] places = new int[MOST_RIDERS];
        final int[] sizes = new int[MOST_RIDERS];

        void clear() {
            onRoad = 0;
            number = 0;
        }

        /** Riders come here by rising numbers, so alike ones keep the lower number ahead. */
        void stand(int rider, int[] metres) {
            if (onRoad >= MOST_RIDERS) {
                return;
            }
            int spot = onRoad;
            while (spot > 0 && metres[order[spot - 1]] < metres[rider]) {
                order[spot] = order[spot - 1];
                spot--;
            }
            order[spot] = rider;
            onRoad++;
        }

        void part(int[] metres) {
            int first = 0;
            for (int i = 0; i < onRoad; i++) {
                places[order[i]] = i - first + 1;
                boolean last = i + 1 >= onRoad || metres[order[i]] - metres[order[i + 1]] > WIDEST_GAP;
                if (last) {
                    close(first, i);
                    first = i + 1;
                }
            }
        }

        private void close(int first, int last) {
            for (int i = first; i <= last; i++) {
                sizes[order[i]] = last - first + 1;
            }
            number++;
        }
    }

    /** One race, minute by minute; afterwards what came of it, also when riders and road have changed since. */
    private static final class Race {
        int minute = 0;
        /** How many ride and are not in. */
        int left = 0;
        int primes = 0;
        private long lot = 0L;
        private int foremost = 0;
        final boolean[] rides = new boolean[MOST_RIDERS];
        final int[] metres = new int[MOST_RIDERS];
        final int[] store = new int[MOST_RIDERS];
        final int[] seconds = new int[MOST_RIDERS];
        final int[] timesHeld = new int[MOST_RIDERS];
        final int[] work = new int[MOST_RIDERS];
        private final int[] heldFor = new int[MOST_RIDERS];
        /** A row of riders for each prime. */
        private final int[] primeSeconds = new int[MOST_PRIMES * MOST_RIDERS];
        final int[] orderRows = new int[TEAMS];
        final Bunches bunches = new Bunches();
        private final int[] values = new int[ASKED_VALUES];

        void begin(Riders riders, Road road, boolean[] out, long seed) {
            minute = 0;
            primes = road.primes;
            lot = seed;
            for (int i = 0; i < TEAMS; i++) {
                orderRows[i] = i;
            }
            for (int i = 0; i < MOST_RIDERS; i++) {
                rides[i] = i < riders.number && !out[i];
                metres[i] = 0;
                store[i] = riders.full[i];
                seconds[i] = NONE;
                timesHeld[i] = 0;
                work[i] = 0;
                heldFor[i] = 0;
            }
            for (int i = 0; i < MOST_PRIMES * MOST_RIDERS; i++) {
                primeSeconds[i] = NONE;
            }
            lineUp();
        }

        void rideMinute(Riders riders, Road road, OrderBook book) {
            // First of all: those who crash in this minute have all of their minutes still ahead.
            lessenHolds();
            for (int i = 0; i < bunches.onRoad; i++) {
                rideOne(bunches.order[i], riders, road, book);
            }
            minute++;
            lineUp();
        }

        private void lineUp() {
            bunches.clear();
            left = 0;
            foremost = 0;
            for (int i = 0; i < MOST_RIDERS; i++) {
                if (rides[i] && seconds[i] == NONE) {
                    left++;
                    foremost = Math.max(foremost, metres[i]);
                    if (heldFor[i] == 0) {
                        bunches.stand(i, metres);
                    }
                }
            }
            bunches.part(metres);
        }

        private void lessenHolds() {
            for (int i = 0; i < MOST_RIDERS; i++) {
                if (heldFor[i] > 0) {
                    heldFor[i]--;
                }
            }
        }

        private void rideOne(int rider, Riders riders, Road road, OrderBook book) {
            int kilometre = Math.min(metres[rider] / METRES_OF_KILOMETRE, MOST_KILOMETRES - 1);
            int itsRise = road.rises[kilometre];
            int slope = slopePower(itsRise, riders.climb[rider]);
            int share = shareOf(bunches.places[rider], road.winds[kilometre]);
            int atMost = store[rider] + riders.steady[rider];
            look(rider, riders.full[rider], road.length());
            int pace = book.paceBy(orderRows[riders.teams[rider]], values);
            while (pace > 0 && powerOf(pace, slope, share) > atMost) {
                pace--;
            }
            int power = powerOf(pace, slope, share);
            work[rider] += power;
            store[rider] = Math.max(0, Math.min(riders.full[rider], atMost - power));
            advance(rider, metresOf(pace, itsRise), road);
        }

        /** What the clauses may ask; none of it is changed by those who rode ahead in the same minute. */
        private void look(int rider, int full, int length) {
            values[ASKS_STORE] = full == 0 ? 0 : store[rider] * 100 / full;
            values[ASKS_KILOMETRES] = (length - metres[rider]) / METRES_OF_KILOMETRE;
            values[ASKS_GAP] = (foremost - metres[rider]) / 10;
            values[ASKS_RIDERS] = bunches.sizes[rider];
            values[ASKS_PLACE] = bunches.places[rider];
        }

        private static int slopePower(int rise, int climb) {
            int whole = 3 * rise;
            return rise > 0 ? whole - whole * climb / 100 : whole;
        }

        private static int shareOf(int place, int wind) {
            if (place < 2) {
                return 100 + 4 * wind;
            }
            return 60 + 2 * wind + 20 / (place - 1);
        }

        private static int powerOf(int pace, int slope, int share) {
            return Math.max(0, (10 + 8 * pace + slope) * share / 100);
        }

        private static int metresOf(int pace, int rise) {
            return Math.max(LEAST_METRES_OF_MINUTE, 300 + 40 * pace - 15 * rise);
        }

        private void advance(int rider, int goes, Road road) {
            int from = metres[rider];
            int to = from + goes;
            if (road.crashMetre > from && road.crashMetre <= to && drawsCrash(road.crashPart)) {
                to = road.crashMetre;
                heldFor[rider] = MINUTES_HELD;
                timesHeld[rider]++;
            }
            for (int i = 0; i < primes; i++) {
                int prime = road.primeMetres[i];
                if (prime > from && prime <= to) {
                    primeSeconds[i * MOST_RIDERS + rider] = secondsAfter(prime - from, goes);
                }
            }
            if (to >= road.length()) {
                to = road.length();
                seconds[rider] = secondsAfter(to - from, goes);
            }
            metres[rider] = to;
        }

        private boolean drawsCrash(int part) {
            lot = lot * LOT_FACTOR + LOT_STEP;
            return (lot >>> 33) % 100 < part;
        }

        private int secondsAfter(int gone, int goes) {
            int whole = Math.max(LEAST_METRES_OF_MINUTE, goes);
            return SECONDS_OF_MINUTE * minute + (SECONDS_OF_MINUTE * gone + whole - 1) / whole;
        }

        /** The place of a rider in a row of seconds, 0 without any of its own. */
        private static int placeIn(int[] row, int from, int rider) {
            int its = row[from + rider];
            if (its == NONE) {
                return 0;
            }
            int place = 1;
            for (int i = 0; i < MOST_RIDERS; i++) {
                int other = row[from + i];
                if (other != NONE && (other < its || other == its && i < rider)) {
                    place++;
                }
            }
            return place;
        }

        private static int riderIn(int[] row, int from, int place) {
            for (int i = 0; i < MOST_RIDERS; i++) {
                if (placeIn(row, from, i) == place) {
                    return i;
                }
            }
            return NONE;
        }

        int placeOf(int rider) {
            return placeIn(seconds, 0, rider);
        }

        int riderAt(int place) {
            return riderIn(seconds, 0, place);
        }

        int riderAtPrime(int prime, int place) {
            return riderIn(primeSeconds, prime * MOST_RIDERS, place);
        }

        int primePointsOf(int rider) {
            int points = 0;
            for (int i = 0; i < primes; i++) {
                int place = placeIn(primeSeconds, i * MOST_RIDERS, rider);
                if (place >= 1 && place <= COUNTED_PLACES) {
                    points += COUNTED_PLACES + 1 - place;
                }
            }
            return points;
        }

        int foremostOf(int team, Riders riders) {
            int furthest = 0;
            for (int i = 0; i < MOST_RIDERS; i++) {
                if (rides[i] && riders.teams[i] == team) {
                    furthest = Math.max(furthest, metres[i]);
                }
            }
            return furthest;
        }

        int scoreOf(int team, Riders riders) {
            int score = 0;
            int counted = 0;
            for (int place = 1; place <= MOST_RIDERS && counted < COUNTED_PLACES; place++) {
                int who = riderAt(place);
                if (who != NONE && riders.teams[who] == team) {
                    score += place;
                    counted++;
                }
            }
            return score + SCORE_OF_LACKING * (COUNTED_PLACES - counted);
        }
    }

    /** Metres and groups of the latest race as each of its minutes was over. */
    private static final class RaceLog {
        final int[] metres = new int[(MOST_MINUTES + 1) * MOST_RIDERS];
        final int[] groups = new int[MOST_MINUTES + 1];

        void note(Race race) {
            if (race.minute < 0 || race.minute > MOST_MINUTES) {
                return;
            }
            int from = race.minute * MOST_RIDERS;
            for (int i = 0; i < MOST_RIDERS; i++) {
                metres[from + i] = race.metres[i];
            }
            groups[race.minute] = race.bunches.number;
        }
    }

    /** What the kept races come to. */
    private static final class Stages {
        int number = 0;
        int limit = FIRST_LIMIT;
        final int[] totals = new int[MOST_RIDERS];
        final int[] points = new int[MOST_RIDERS];
        final boolean[] out = new boolean[MOST_RIDERS];

        void addStage(Race race, int riderNumber) {
            int winner = race.riderAt(1);
            int latestAllowed = winner == NONE ? 0 : race.seconds[winner] * (100 + limit);
            for (int i = 0; i < riderNumber && i < MOST_RIDERS; i++) {
                int itsSeconds = race.seconds[i];
                int primePoints = race.primePointsOf(i);
                points[i] += primePoints + stagePoints(race.placeOf(i));
                if (itsSeconds != NONE) {
                    totals[i] += itsSeconds - primePoints;
                }
                if (itsSeconds == NONE || itsSeconds * 100 > latestAllowed) {
                    out[i] = true;
                }
            }
            number++;
        }

        private static int stagePoints(int place) {
            return place >= 1 && place <= STAGE_POINTS.length ? STAGE_POINTS[place - 1] : 0;
        }

        int howManyOut(int riderNumber) {
            int found = 0;
            for (int i = 0; i < riderNumber && i < MOST_RIDERS; i++) {
                if (out[i]) {
                    found++;
                }
            }
            return found;
        }

        int standingOf(int rider, int riderNumber) {
            if (out[rider]) {
                return 0;
            }
            int place = 1;
            for (int i = 0; i < riderNumber && i < MOST_RIDERS; i++) {
                if (!out[i] && standsAhead(i, rider)) {
                    place++;
                }
            }
            return place;
        }

        private boolean standsAhead(int one, int other) {
            if (totals[one] != totals[other]) {
                return totals[one] < totals[other];
            }
            if (points[one] != points[other]) {
                return points[one] > points[other];
            }
            return one < other;
        }

        int lowestThreeOf(int team, Riders riders) {
            int found = 0;
            int total = 0;
            for (int i = 0; i < riders.number; i++) {
                if (countsFor(team, i, riders) && matesAhead(team, i, riders) < COUNTED_PLACES) {
                    total += totals[i];
                    found++;
                }
            }
            return found < COUNTED_PLACES ? NONE : total;
        }

        private boolean countsFor(int team, int rider, Riders riders) {
            return riders.teams[rider] == team && !out[rider];
        }

        private int matesAhead(int team, int rider, Riders riders) {
            int ahead = 0;
            for (int i = 0; i < riders.number; i++) {
                if (countsFor(team, i, riders) && standsAhead(i, rider)) {
                    ahead++;
                }
            }
            return ahead;
        }
    }
}
