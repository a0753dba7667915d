import java.nio.charset.StandardCharsets;
import java.util.ArrayList;
import java.util.Comparator;
import java.util.HashSet;
import java.util.List;
import java.util.Random;
import java.util.Set;
import java.util.regex.Matcher;
import java.util.regex.Pattern;

/**
 * Long runs of drawn calls, good and wrong ones mixed, answered by the class and by a plain model of the document
 * that is written in another way (lists, sorting and patterns, everything worked out anew at each call).
 */
public final class ModelTest {
    private static final int NONE = -1;
    private static final int RUNS = 400;
    private static final int CALLS = 512;

    public static void main(String[] args) {
        int wrong = 0;
        for (int run = 0; run < RUNS && wrong == 0; run++) {
            wrong += run(run);
        }
        System.out.println(wrong == 0 ? RUNS + " runs are alike" : "the class and the model part");
        if (wrong != 0) {
            System.exit(1);
        }
    }

    private static int run(int number) {
        Random random = new Random(number);
        BunchRace real = new BunchRace();
        Model model = new Model();
        List<String> done = new ArrayList<>();
        Draw draw = new Draw(random, number % 4);
        for (int i = 0; i < CALLS; i++) {
            String call = draw.call(real, model);
            done.add(call + " -> " + draw.got);
            if (draw.got != draw.want) {
                for (String line : done) {
                    System.out.println(line);
                }
                System.out.println("run " + number + ", call " + i + ": due is " + draw.want);
                return 1;
            }
        }
        return 0;
    }

    /** Draws one call, has both answer it, and keeps both answers. */
    private static final class Draw {
        final Random random;
        final int mood;
        long got;
        long want;

        Draw(Random random, int mood) {
            this.random = random;
            this.mood = mood;
        }

        int of(int low, int high) {
            int chance = random.nextInt(60);
            if (chance == 0) {
                return low - 1;
            }
            if (chance == 1) {
                return high + 1;
            }
            if (chance == 2) {
                return random.nextInt();
            }
            if (chance == 3) {
                return random.nextBoolean() ? Integer.MAX_VALUE : Integer.MIN_VALUE;
            }
            if (chance < 10) {
                return random.nextBoolean() ? low : high;
            }
            return low + random.nextInt(high - low + 1);
        }

        int metre(Model m) {
            int length = 1000 * m.rises.length;
            int near = random.nextInt(3);
            return near == 0 ? of(1, Math.min(length - 1, 700)) : of(1, length - 1);
        }

        String call(BunchRace x, Model m) {
            int pick = random.nextInt(100);
            if (pick < 8) {
                return build(x, m);
            }
            if (pick < 14) {
                return shape(x, m);
            }
            if (pick < 30) {
                return tape(x, m);
            }
            if (pick < 36) {
                long seed = random.nextLong();
                return both("race(" + seed + ")", x.race(seed), m.race(seed));
            }
            if (pick < 39) {
                return random.nextInt(mood == 0 ? 2 : 4) == 0 ? both("keep()", x.keep(), m.keep()) : limit(x, m);
            }
            if (pick < 44) {
                return tries(x, m);
            }
            return asks(x, m);
        }

        String both(String call, long real, long model) {
            got = real;
            want = model;
            return call;
        }

        String both(String call, boolean real, boolean model) {
            return both(call, real ? 1 : 0, model ? 1 : 0);
        }

        String limit(BunchRace x, Model m) {
            int part = of(1, 100);
            return both("limit(" + part + ")", x.limit(part), m.limit(part));
        }

        String build(BunchRace x, Model m) {
            int team = of(0, mood == 1 ? 1 : 4);
            int steady = of(1, 60);
            int full = random.nextInt(8) == 0 ? 0 : of(0, random.nextInt(2) == 0 ? 300 : 2000);
            int climb = of(0, 50);
            return both("rider(" + team + ", " + steady + ", " + full + ", " + climb + ")",
                    x.rider(team, steady, full, climb), m.rider(team, steady, full, climb));
        }

        String shape(BunchRace x, Model m) {
            int pick = random.nextInt(12);
            if (pick == 0) {
                int kilometres = of(1, mood < 2 ? 6 : 30);
                return both("road(" + kilometres + ")", x.road(kilometres), m.road(kilometres));
            }
            if (pick < 7) {
                int kilometre = of(0, m.rises.length - 1);
                int rise = of(-5, 10);
                int wind = of(-3, 9);
                return both("rise(" + kilometre + ", " + rise + ", " + wind + ")",
                        x.rise(kilometre, rise, wind), m.rise(kilometre, rise, wind));
            }
            int metre = metre(m);
            if (pick < 10) {
                return both("prime(" + metre + ")", x.prime(metre), m.prime(metre));
            }
            int part = of(0, 100);
            return both("crash(" + metre + ", " + part + ")", x.crash(metre, part), m.crash(metre, part));
        }

        String tape(BunchRace x, Model m) {
            int pick = random.nextInt(12);
            if (pick < 5) {
                return feed(x, m);
            }
            if (pick < 6) {
                int n = random.nextInt(3) == 0 ? 0 : of(0, m.tape.length());
                return both("end(" + n + ")", x.end(n), m.end(n));
            }
            if (pick < 8) {
                return both("fault()", x.fault(), m.fault());
            }
            if (pick < 11) {
                int team = of(0, 4);
                if (m.fault() != NONE && random.nextBoolean()) {
                    return both("end(0)", x.end(0), m.end(0));
                }
                return both("orders(" + team + ")", x.orders(team), m.orders(team));
            }
            return both("choice()", x.choice(), m.choice());
        }

        String feed(BunchRace x, Model m) {
            String text = m.tape.length() == 0 ? "" : ";";
            while (text.length() < 20) {
                String next = text + (text.isEmpty() || text.equals(";") ? "" : ";") + clause();
                if (next.length() > 20) {
                    break;
                }
                text = next;
            }
            StringBuilder drawn = new StringBuilder(text);
            if (random.nextInt(5) == 0) {
                spoil(drawn);
            }
            while (drawn.length() < 20) {
                drawn.insert(random.nextInt(3) == 0 ? random.nextInt(drawn.length() + 1) : drawn.length(), (char) 0);
            }
            drawn.setLength(20);
            byte[] bytes = drawn.toString().getBytes(StandardCharsets.ISO_8859_1);
            int[] w = new int[5];
            for (int i = 0; i < 20; i++) {
                w[i / 4] |= (bytes[i] & 255) << (24 - 8 * (i % 4));
            }
            return both("feed of '" + drawn.toString().replace("\0", "") + "'",
                    x.feed(w[0], w[1], w[2], w[3], w[4]), m.feed(drawn.toString()));
        }

        void spoil(StringBuilder text) {
            int where = random.nextInt(text.length() + 1);
            String signs = "skgnp=<>:;0123456789  x\u00ff";
            char sign = signs.charAt(random.nextInt(signs.length()));
            if (random.nextBoolean() || where == text.length()) {
                text.insert(where, sign);
            } else {
                text.setCharAt(where, sign);
            }
        }

        String blank() {
            return random.nextInt(12) == 0 ? " " : "";
        }

        String clause() {
            char letter = "skgnp".charAt(random.nextInt(5));
            int most = letter == 's' ? 100 : letter == 'k' ? 6 : letter == 'g' ? 40 : 6;
            int number = random.nextInt(most + 1);
            String digits = random.nextInt(10) == 0 ? String.format("%03d", number) : String.valueOf(number);
            return blank() + letter + blank() + "=<>".charAt(random.nextInt(3)) + blank() + digits + blank() + ":"
                    + blank() + random.nextInt(10);
        }

        String tries(BunchRace x, Model m) {
            int team = of(0, 4);
            int metre = metre(m);
            long seed = random.nextLong();
            if (random.nextInt(3) == 0) {
                return both("best(" + team + ", " + metre + ", " + seed + ")",
                        x.best(team, metre, seed), m.best(team, metre, seed));
            }
            int first = of(0, Math.max(0, m.choices.size() - 1));
            int then = of(0, Math.max(0, m.choices.size() - 1));
            return both("attempt(" + team + ", " + metre + ", " + first + ", " + then + ", " + seed + ")",
                    x.attempt(team, metre, first, then, seed), m.attempt(team, metre, first, then, seed));
        }

        String asks(BunchRace x, Model m) {
            int rider = of(0, Math.max(0, m.riders.size() - 1));
            int minute = of(0, Math.max(0, m.latest == null ? 0 : m.latest.minutes));
            int what = of(0, 7);
            int place = of(1, 20);
            switch (random.nextInt(8)) {
                case 0:
                case 1:
                    return both("told(" + rider + ", " + what + ")", x.told(rider, what), m.told(rider, what));
                case 2:
                    return both("at(" + place + ")", x.at(place), m.at(place));
                case 3:
                    int prime = of(0, 4);
                    int third = of(1, 3);
                    return both("passed(" + prime + ", " + third + ")", x.passed(prime, third), m.passed(prime, third));
                case 4:
                    return both("metres(" + rider + ", " + minute + ")",
                            x.metres(rider, minute), m.metres(rider, minute));
                case 5:
                    return both("groups(" + minute + ")", x.groups(minute), m.groups(minute));
                case 6:
                    int kind = of(0, 3);
                    return both("sum(" + rider + ", " + kind + ")", x.sum(rider, kind), m.sum(rider, kind));
                default:
                    int team = of(0, 4);
                    return random.nextBoolean() ? both("team(" + team + ")", x.team(team), m.team(team))
                            : both("count(" + what + ")", x.count(what), m.count(what));
            }
        }
    }

    private static final class Rider {
        int number;
        int team;
        int steady;
        int full;
        int climb;
        int total;
        int points;
        boolean out;
    }

    private static final class Clause {
        char letter;
        char sign;
        int number;
        int pace;
    }

    private static final class Ride {
        final Rider who;
        int metres;
        int store;
        int held;
        int timesHeld;
        int work;
        int seconds = NONE;
        final int[] primes = {NONE, NONE, NONE, NONE, NONE};
        final List<Integer> history = new ArrayList<>();

        Ride(Rider who) {
            this.who = who;
            store = who.full;
        }

        boolean isIn() {
            return seconds != NONE;
        }
    }

    private static final class Outcome {
        final List<Ride> rides = new ArrayList<>();
        final List<Integer> groups = new ArrayList<>();
        int minutes;
        int primes;
        boolean kept;

        Ride of(int number) {
            for (Ride ride : rides) {
                if (ride.who.number == number) {
                    return ride;
                }
            }
            return null;
        }

        List<Ride> byPlace() {
            List<Ride> in = new ArrayList<>(rides);
            in.removeIf(ride -> !ride.isIn());
            in.sort(Comparator.<Ride>comparingInt(ride -> ride.seconds).thenComparingInt(ride -> ride.who.number));
            return in;
        }

        List<Ride> byPrime(int prime) {
            List<Ride> by = new ArrayList<>(rides);
            by.removeIf(ride -> ride.primes[prime] == NONE);
            by.sort(Comparator.<Ride>comparingInt(ride -> ride.primes[prime]).thenComparingInt(ride -> ride.who.number));
            return by;
        }

        int points(Ride ride) {
            int points = 0;
            for (int prime = 0; prime < primes; prime++) {
                int place = byPrime(prime).indexOf(ride);
                points += place >= 0 && place < 3 ? 3 - place : 0;
            }
            return points;
        }
    }

    private static final class Model {
        private static final String CLAUSE = "[skgnp] *[=<>] *[0-9]{1,3} *: *[0-9]";
        private static final Pattern TEXT = Pattern.compile(" *(" + CLAUSE + " *(; *" + CLAUSE + " *)*)?");
        private static final Pattern PARTS = Pattern.compile("([skgnp]) *([=<>]) *([0-9]{1,3}) *: *([0-9])");

        final List<Rider> riders = new ArrayList<>();
        int[] rises = new int[1];
        int[] winds = new int[1];
        List<Integer> primes = new ArrayList<>();
        int crashAt = NONE;
        int crashPart = 0;
        String tape = "";
        final List<List<Clause>> orders = new ArrayList<>();
        final List<List<Clause>> choices = new ArrayList<>();
        Outcome latest;
        int stages;
        int limit = 20;

        Model() {
            for (int i = 0; i < 5; i++) {
                orders.add(new ArrayList<>());
            }
        }

        static boolean within(int low, int value, int high) {
            return low <= value && value <= high;
        }

        int rider(int team, int steady, int full, int climb) {
            if (riders.size() == 20 || stages > 0 || !within(0, team, 4) || !within(1, steady, 60)
                    || !within(0, full, 2000) || !within(0, climb, 50)) {
                return NONE;
            }
            Rider r = new Rider();
            r.number = riders.size();
            r.team = team;
            r.steady = steady;
            r.full = full;
            r.climb = climb;
            riders.add(r);
            return r.number;
        }

        boolean road(int kilometres) {
            if (!within(1, kilometres, 30)) {
                return false;
            }
            rises = new int[kilometres];
            winds = new int[kilometres];
            primes = new ArrayList<>();
            crashAt = NONE;
            return true;
        }

        boolean rise(int kilometre, int rise, int wind) {
            if (!within(0, kilometre, rises.length - 1) || !within(-5, rise, 10) || !within(-3, wind, 9)) {
                return false;
            }
            rises[kilometre] = rise;
            winds[kilometre] = wind;
            return true;
        }

        boolean hasMetre(int metre) {
            return within(1, metre, 1000 * rises.length - 1);
        }

        int prime(int metre) {
            if (!hasMetre(metre) || primes.size() == 5) {
                return NONE;
            }
            primes.add(metre);
            return primes.size() - 1;
        }

        boolean crash(int metre, int part) {
            if (!hasMetre(metre) || !within(0, part, 100)) {
                return false;
            }
            crashAt = metre;
            crashPart = part;
            return true;
        }

        int feed(String twenty) {
            String more = tape + twenty.replace("\0", "");
            if (more.length() > 100) {
                return NONE;
            }
            tape = more;
            return tape.length();
        }

        boolean end(int n) {
            if (!within(0, n, tape.length())) {
                return false;
            }
            tape = tape.substring(0, n);
            return true;
        }

        int fault() {
            for (int i = 1; i <= tape.length(); i++) {
                Matcher matcher = TEXT.matcher(tape.substring(0, i));
                if (!matcher.matches() && !matcher.hitEnd()) {
                    return i - 1;
                }
            }
            return TEXT.matcher(tape).matches() ? NONE : tape.length();
        }

        List<Clause> clauses() {
            List<Clause> found = new ArrayList<>();
            Matcher matcher = PARTS.matcher(tape);
            while (matcher.find()) {
                Clause clause = new Clause();
                clause.letter = matcher.group(1).charAt(0);
                clause.sign = matcher.group(2).charAt(0);
                clause.number = Integer.parseInt(matcher.group(3));
                clause.pace = Integer.parseInt(matcher.group(4));
                found.add(clause);
            }
            tape = "";
            return found;
        }

        boolean orders(int team) {
            if (!within(0, team, 4) || fault() != NONE) {
                return false;
            }
            orders.set(team, clauses());
            return true;
        }

        int choice() {
            if (choices.size() == 4 || fault() != NONE) {
                return NONE;
            }
            choices.add(clauses());
            return choices.size() - 1;
        }

        int race(long seed) {
            if (riders.isEmpty()) {
                return NONE;
            }
            latest = ride(seed, NONE, 0, null, null);
            return latest.minutes;
        }

        Outcome ride(long seed, int tried, int metre, List<Clause> first, List<Clause> then) {
            Outcome race = new Outcome();
            race.primes = primes.size();
            for (Rider r : riders) {
                if (!r.out) {
                    race.rides.add(new Ride(r));
                }
            }
            long[] lot = {seed};
            note(race);
            while (race.minutes < 400 && race.rides.stream().anyMatch(ride -> !ride.isIn())) {
                boolean changed = race.rides.stream().anyMatch(ride -> ride.who.team == tried && ride.metres >= metre);
                minute(race, lot, tried, changed ? then : first);
                race.minutes++;
                note(race);
            }
            return race;
        }

        void note(Outcome race) {
            for (Ride ride : race.rides) {
                ride.history.add(ride.metres);
            }
            race.groups.add(groupsOf(race).size());
        }

        List<List<Ride>> groupsOf(Outcome race) {
            List<Ride> road = new ArrayList<>(race.rides);
            road.removeIf(ride -> ride.isIn() || ride.held > 0);
            road.sort(Comparator.<Ride>comparingInt(ride -> -ride.metres).thenComparingInt(ride -> ride.who.number));
            List<List<Ride>> groups = new ArrayList<>();
            Ride ahead = null;
            for (Ride ride : road) {
                if (ahead == null || ahead.metres - ride.metres > 20) {
                    groups.add(new ArrayList<>());
                }
                groups.get(groups.size() - 1).add(ride);
                ahead = ride;
            }
            return groups;
        }

        void minute(Outcome race, long[] lot, int tried, List<Clause> triedOrders) {
            List<List<Ride>> groups = groupsOf(race);
            Set<Ride> heldOnes = new HashSet<>();
            int foremost = 0;
            for (Ride ride : race.rides) {
                if (ride.held > 0) {
                    heldOnes.add(ride);
                }
                if (!ride.isIn()) {
                    foremost = Math.max(foremost, ride.metres);
                }
            }
            for (List<Ride> group : groups) {
                for (int place = 1; place <= group.size(); place++) {
                    Ride ride = group.get(place - 1);
                    List<Clause> text = ride.who.team == tried ? triedOrders : orders.get(ride.who.team);
                    int pace = paceOf(ride, text, foremost, group.size(), place);
                    go(race, ride, pace, place, lot);
                }
            }
            for (Ride ride : heldOnes) {
                ride.held--;
            }
        }

        int paceOf(Ride ride, List<Clause> text, int foremost, int size, int place) {
            for (Clause clause : text) {
                int value = switch (clause.letter) {
                    case 's' -> ride.who.full == 0 ? 0 : 100 * ride.store / ride.who.full;
                    case 'k' -> rises.length - (ride.metres + 999) / 1000;
                    case 'g' -> (foremost - ride.metres) / 10;
                    case 'n' -> size;
                    default -> place;
                };
                boolean holds = switch (clause.sign) {
                    case '<' -> value < clause.number;
                    case '>' -> value > clause.number;
                    default -> value == clause.number;
                };
                if (holds) {
                    return clause.pace;
                }
            }
            return 4;
        }

        int power(Ride ride, int pace, int place) {
            int kilometre = ride.metres / 1000;
            int climbing = 3 * rises[kilometre];
            if (climbing > 0) {
                climbing -= (int) Math.floor(climbing * ride.who.climb / 100.0);
            }
            int share = place == 1 ? 100 + 4 * winds[kilometre] : 60 + 2 * winds[kilometre] + 20 / (place - 1);
            int power = 10 + 8 * pace + climbing;
            return power <= 0 ? 0 : power * share / 100;
        }

        void go(Outcome race, Ride ride, int wanted, int place, long[] lot) {
            int pace = wanted;
            while (pace >= 0 && power(ride, pace, place) - ride.who.steady > ride.store) {
                pace--;
            }
            if (pace < 0) {
                pace = 0;
                ride.work += power(ride, 0, place);
                ride.store = 0;
            } else {
                int power = power(ride, pace, place);
                ride.work += power;
                ride.store = Math.min(ride.who.full, ride.store - (power - ride.who.steady));
            }
            int goes = Math.max(100, 300 + 40 * pace - 15 * rises[ride.metres / 1000]);
            move(race, ride, goes, lot);
        }

        void move(Outcome race, Ride ride, int goes, long[] lot) {
            int from = ride.metres;
            boolean crashed = false;
            for (int step = 1; step <= goes; step++) {
                int now = from + step;
                int seconds = 60 * race.minutes + (int) Math.ceil(60.0 * step / goes);
                ride.metres = now;
                for (int prime = 0; prime < primes.size(); prime++) {
                    if (primes.get(prime) == now && ride.primes[prime] == NONE) {
                        ride.primes[prime] = seconds;
                    }
                }
                if (now == crashAt) {
                    lot[0] = lot[0] * 6364136223846793005L + 1442695040888963407L;
                    crashed = Long.remainderUnsigned(lot[0] >>> 33, 100) < crashPart;
                }
                if (crashed) {
                    ride.held = 3;
                    ride.timesHeld++;
                    return;
                }
                if (now == 1000 * rises.length) {
                    ride.seconds = seconds;
                    return;
                }
            }
        }

        int told(int rider, int what) {
            Ride ride = latest == null ? null : latest.of(rider);
            if (ride == null) {
                return NONE;
            }
            return switch (what) {
                case 0 -> ride.isIn() ? 1 : 0;
                case 1 -> ride.seconds;
                case 2 -> latest.byPlace().indexOf(ride) + 1;
                case 3 -> ride.metres;
                case 4 -> ride.store;
                case 5 -> latest.points(ride);
                case 6 -> ride.timesHeld;
                case 7 -> ride.work;
                default -> NONE;
            };
        }

        int at(int place) {
            if (latest == null || place < 1 || place > latest.byPlace().size()) {
                return NONE;
            }
            return latest.byPlace().get(place - 1).who.number;
        }

        int passed(int prime, int place) {
            if (latest == null || !within(0, prime, latest.primes - 1) || !within(1, place, 3)
                    || latest.byPrime(prime).size() < place) {
                return NONE;
            }
            return latest.byPrime(prime).get(place - 1).who.number;
        }

        int metres(int rider, int minute) {
            Ride ride = latest == null ? null : latest.of(rider);
            return ride == null || !within(0, minute, latest.minutes) ? NONE : ride.history.get(minute);
        }

        int groups(int minute) {
            return latest == null || !within(0, minute, latest.minutes) ? NONE : latest.groups.get(minute);
        }

        int keep() {
            if (latest == null || latest.kept || stages == 20) {
                return NONE;
            }
            latest.kept = true;
            List<Ride> places = latest.byPlace();
            int[] more = {10, 6, 4};
            for (Rider r : riders) {
                Ride ride = latest.of(r.number);
                if (ride == null || !ride.isIn()) {
                    r.out = true;
                    continue;
                }
                int place = places.indexOf(ride);
                r.points += latest.points(ride) + (place < 3 ? more[place] : 0);
                r.total += ride.seconds - latest.points(ride);
                r.out |= 100L * ride.seconds > (100L + limit) * places.get(0).seconds;
            }
            stages++;
            return stages - 1;
        }

        boolean limit(int part) {
            if (!within(1, part, 100)) {
                return false;
            }
            limit = part;
            return true;
        }

        List<Rider> standing() {
            List<Rider> all = new ArrayList<>(riders);
            all.removeIf(r -> r.out);
            all.sort(Comparator.<Rider>comparingInt(r -> r.total).thenComparingInt(r -> -r.points)
                    .thenComparingInt(r -> r.number));
            return all;
        }

        int sum(int rider, int what) {
            if (!within(0, rider, riders.size() - 1)) {
                return NONE;
            }
            Rider r = riders.get(rider);
            return switch (what) {
                case 0 -> r.total;
                case 1 -> r.points;
                case 2 -> r.out ? 1 : 0;
                case 3 -> standing().indexOf(r) + 1;
                default -> NONE;
            };
        }

        int team(int team) {
            List<Integer> totals = new ArrayList<>();
            for (Rider r : riders) {
                if (r.team == team && !r.out) {
                    totals.add(r.total);
                }
            }
            totals.sort(Comparator.naturalOrder());
            return totals.size() < 3 ? NONE : totals.get(0) + totals.get(1) + totals.get(2);
        }

        int attempt(int team, int metre, int first, int then, long seed) {
            if (!within(0, team, 4) || !hasMetre(metre) || !within(0, first, choices.size() - 1)
                    || !within(0, then, choices.size() - 1) || riders.isEmpty()) {
                return NONE;
            }
            List<Ride> places = ride(seed, team, metre, choices.get(first), choices.get(then)).byPlace();
            int score = 0;
            int counted = 0;
            for (int i = 0; i < places.size() && counted < 3; i++) {
                if (places.get(i).who.team == team) {
                    score += i + 1;
                    counted++;
                }
            }
            return score + 40 * (3 - counted);
        }

        int best(int team, int metre, long seed) {
            int best = NONE;
            int lowest = Integer.MAX_VALUE;
            for (int a = 0; a < choices.size(); a++) {
                for (int b = 0; b < choices.size(); b++) {
                    int score = attempt(team, metre, a, b, seed);
                    if (score != NONE && score < lowest) {
                        lowest = score;
                        best = 10 * a + b;
                    }
                }
            }
            return best;
        }

        int count(int what) {
            return switch (what) {
                case 0 -> riders.size();
                case 1 -> rises.length;
                case 2 -> primes.size();
                case 3 -> stages;
                case 4 -> choices.size();
                case 5 -> tape.length();
                case 6 -> (int) riders.stream().filter(r -> r.out).count();
                case 7 -> latest == null ? NONE : latest.minutes;
                default -> NONE;
            };
        }
    }
}
