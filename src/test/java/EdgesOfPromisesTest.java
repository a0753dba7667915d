/** Promises 1 to 24, one after the other: what each refuses and answers at its edges, empty and full. */
public final class EdgesOfPromisesTest extends Check {
    public static void main(String[] args) {
        sentence("1: No RIDERS", EdgesOfPromisesTest::nothingAtFirst);
        sentence("1: the ROAD has one KILOMETRE, flat and calm", EdgesOfPromisesTest::roadAtFirst);
        sentence("2: NONE: there are 20", EdgesOfPromisesTest::riderTwentyOne);
        sentence("2: NONE: out of bounds", EdgesOfPromisesTest::riderOutOfBounds);
        sentence("2: NONE: a RACE was kept", EdgesOfPromisesTest::riderBehindAStage);
        sentence("3: so many flat and calm KILOMETRES, no PRIMES, no CRASH", EdgesOfPromisesTest::roadAnew);
        sentence("3: False: out of bounds", EdgesOfPromisesTest::roadOutOfBounds);
        sentence("4: RISE and WIND of a KILOMETRE (0 the first). False: no such one", EdgesOfPromisesTest::riseOfNoSuchOne);
        sentence("4: False: out of bounds", EdgesOfPromisesTest::riseOutOfBounds);
        sentence("5: A PRIME: its number. NONE: no such metre, there are five", EdgesOfPromisesTest::primes);
        sentence("6: The CRASH. False: no such metre, PART", EdgesOfPromisesTest::crashes);
        sentence("9: The FAULT of the TAPE; NONE", EdgesOfPromisesTest::faults);
        sentence("10: ORDERS of a TEAM. False: no such one, a FAULT", EdgesOfPromisesTest::orders);
        sentence("11: a CHOICE: its number. NONE: a FAULT, there are four", EdgesOfPromisesTest::choices);
        sentence("12: MINUTES. NONE: no RIDERS", EdgesOfPromisesTest::races);
        sentence("13: NONE for others, those who did not ride, or ahead of any", EdgesOfPromisesTest::told);
        sentence("14: a place (1 .. 20) in it. NONE: nobody", EdgesOfPromisesTest::places);
        sentence("15: first, second, third (1 .. 3) in it. NONE: nobody, no such ones", EdgesOfPromisesTest::passed);
        sentence("16: (0: 0). NONE: no such ones, behind its last MINUTE", EdgesOfPromisesTest::metres);
        sentence("17: NONE: no such MINUTE, ahead of any", EdgesOfPromisesTest::groups);
        sentence("17: of those on the ROAD and not HELD then", EdgesOfPromisesTest::groupsOnTheRoad);
        sentence("18: a STAGE: its number. NONE: there is none, it was kept, 20 were", EdgesOfPromisesTest::keep);
        sentence("19: LIMIT. False: out of bounds", EdgesOfPromisesTest::limits);
        sentence("20: 3 its place in STANDING (0: OUT). NONE for others", EdgesOfPromisesTest::sums);
        sentence("21: NONE: no such TEAM, fewer than three", EdgesOfPromisesTest::teams);
        sentence("22: NONE: no such TEAM, metre, CHOICES, no RIDERS", EdgesOfPromisesTest::attempts);
        sentence("23: 10 times a and b. NONE: likewise, no CHOICES", EdgesOfPromisesTest::bests);
        sentence("24: NONE for others", EdgesOfPromisesTest::counts);
        sentence("at most 512 calls after it has been made", EdgesOfPromisesTest::all512Calls);
        finish();
    }

    private static BunchRace raced(int riders) {
        BunchRace x = new BunchRace();
        for (int i = 0; i < riders; i++) {
            x.rider(i % 5, 60, 2000, 0);
        }
        due("minutes", 3, x.race(1));
        return x;
    }

    private static void nothingAtFirst() {
        BunchRace x = new BunchRace();
        int[] counts = {0, 1, 0, 0, 0, 0, 0, NONE};
        for (int i = 0; i < counts.length; i++) {
            due("count(" + i + ")", counts[i], x.count(i));
        }
        for (int i = 0; i < 8; i++) {
            due("told(0, " + i + ")", NONE, x.told(0, i));
            due("sum(0, " + i + ")", NONE, x.sum(0, i));
        }
        due("at(1)", NONE, x.at(1));
        due("passed(0, 1)", NONE, x.passed(0, 1));
        due("metres(0, 0)", NONE, x.metres(0, 0));
        due("groups(0)", NONE, x.groups(0));
        due("keep()", NONE, x.keep());
        due("team(0)", NONE, x.team(0));
        due("race(1)", NONE, x.race(1));
        due("fault()", NONE, x.fault());
        due("attempt", NONE, x.attempt(0, 500, 0, 0, 1));
        due("best", NONE, x.best(0, 500, 1));
        due("end(0)", true, x.end(0));
    }

    private static void roadAtFirst() {
        BunchRace x = new BunchRace();
        due("kilometres", 1, x.count(1));
        due("a second kilometre", false, x.rise(1, 0, 0));
        x.rider(0, 60, 2000, 0);
        due("minutes of pace 4", 3, x.race(1));
        due("flat", 460, x.metres(0, 1));
        due("calm", 3 * 42, x.told(0, 7));
        due("no crash", 0, x.told(0, 6));
        due("no prime", NONE, x.passed(0, 1));
        due("the end", 1000, x.told(0, 3));
    }

    private static void riderTwentyOne() {
        BunchRace x = new BunchRace();
        for (int i = 0; i < 20; i++) {
            due("rider", i, x.rider(4, 1, 0, 0));
        }
        for (int team = 0; team <= 4; team++) {
            due("one more", NONE, x.rider(team, 60, 2000, 50));
        }
        due("twenty", 20, x.count(0));
        x.race(1);
        due("none of the refused ones rides", NONE, x.told(20, 0));
        due("the last is as it was told", 0, x.told(19, 4));
    }

    private static void riderOutOfBounds() {
        bounds("team", 0, 4, v -> new BunchRace().rider(v, 30, 100, 0) != NONE);
        bounds("steady", 1, 60, v -> new BunchRace().rider(0, v, 100, 0) != NONE);
        bounds("full", 0, 2000, v -> new BunchRace().rider(0, 30, v, 0) != NONE);
        bounds("climb", 0, 50, v -> new BunchRace().rider(0, 30, 100, v) != NONE);
        BunchRace x = new BunchRace();
        due("refused", NONE, x.rider(0, 0, 100, 0));
        due("still none", 0, x.count(0));
        due("the next one has the number", 0, x.rider(0, 1, 100, 0));
        due("refused", NONE, x.rider(0, 30, 2001, 0));
        due("the next one has the number", 1, x.rider(0, 1, 100, 0));
    }

    private static void riderBehindAStage() {
        BunchRace x = raced(1);
        due("behind a race that is not kept", 1, x.rider(0, 30, 100, 0));
        x.race(1);
        due("behind another", 2, x.rider(0, 30, 100, 0));
        x.race(1);
        due("stage", 0, x.keep());
        due("behind a stage", NONE, x.rider(0, 30, 100, 0));
        x.road(5);
        x.race(1);
        due("still behind a stage", NONE, x.rider(0, 30, 100, 0));
        due("three", 3, x.count(0));
    }

    private static void roadAnew() {
        int[] roads = {1, 2, 30};
        for (int kilometres : roads) {
            BunchRace x = lone(60, 2000, 0, 5);
            x.road(30);
            for (int i = 0; i < 30; i++) {
                x.rise(i, 10, 9);
            }
            for (int i = 0; i < 5; i++) {
                x.prime(i + 1);
            }
            x.crash(1, 100);
            due("road", true, x.road(kilometres));
            due("kilometres", kilometres, x.count(1));
            due("no primes", 0, x.count(2));
            due("flat, no crash", 2 * kilometres, x.race(1));
            due("calm", 100 * kilometres, x.told(0, 7));
            due("not held", 0, x.told(0, 6));
            due("nobody passed", NONE, x.passed(0, 1));
            due("no points", 0, x.told(0, 5));
            // What a longer road was like does not come back.
            x.road(30);
            due("flat again", 60, x.race(1));
        }
    }

    private static void roadOutOfBounds() {
        int[] refused = {0, 31, -1, Integer.MIN_VALUE, Integer.MAX_VALUE};
        for (int kilometres : refused) {
            BunchRace x = lone(60, 2000, 0, 5);
            x.road(2);
            x.rise(0, 0, 9);
            x.prime(7);
            x.crash(600, 100);
            due("road(" + kilometres + ")", false, x.road(kilometres));
            due("kilometres", 2, x.count(1));
            due("primes", 1, x.count(2));
            x.race(1);
            due("held", 1, x.told(0, 6));
            // 500, 600 (held), 1100: three minutes in the wind; 1600, 2000 without.
            due("work", 3 * 68 + 2 * 50, x.told(0, 7));
        }
    }

    private static void riseOfNoSuchOne() {
        int[] roads = {1, 2, 30};
        for (int kilometres : roads) {
            bounds("rise on " + kilometres, 0, kilometres - 1, k -> {
                BunchRace x = new BunchRace();
                x.road(kilometres);
                return x.rise(k, 1, 1);
            });
        }
        BunchRace x = lone(60, 2000, 0, 5);
        x.road(2);
        x.rise(0, 2, 0);
        x.race(1);
        due("0 is the first", 470, x.metres(0, 1));
        x.road(2);
        x.rise(1, 2, 0);
        x.race(1);
        due("1 is the second", 1000, x.metres(0, 2));
        due("1 is the second", 1470, x.metres(0, 3));
        x.road(30);
        x.road(1);
        due("those of a longer road are no more", false, x.rise(29, 0, 0));
    }

    private static void riseOutOfBounds() {
        bounds("rise", -5, 10, v -> new BunchRace().rise(0, v, 9));
        bounds("wind", -3, 9, v -> new BunchRace().rise(0, 10, v));
        BunchRace x = lone(60, 2000, 0, 5);
        x.rise(0, 2, 3);
        due("wind refused", false, x.rise(0, 5, 10));
        due("rise refused", false, x.rise(0, 11, 5));
        due("rise refused", false, x.rise(0, -6, -3));
        x.race(1);
        due("rise as it was", 470, x.metres(0, 1));
        due("wind as it was", 3 * 62, x.told(0, 7));
    }

    private static void primes() {
        BunchRace x = new BunchRace();
        due("metre 0", NONE, x.prime(0));
        due("metre 1000", NONE, x.prime(1000));
        due("none", 0, x.count(2));
        due("metre 999", 0, x.prime(999));
        due("metre 1, the order is free", 1, x.prime(1));
        due("metre 999 again", 2, x.prime(999));
        due("metre -1", NONE, x.prime(-1));
        due("the number goes on", 3, x.prime(2));
        due("the fifth", 4, x.prime(3));
        due("a sixth", NONE, x.prime(4));
        x.rider(0, 60, 2000, 0);
        x.rider(0, 60, 2000, 0);
        x.race(1);
        for (int i = 0; i < 5; i++) {
            due("first at prime " + i, 0, x.passed(i, 1));
            due("second at prime " + i, 1, x.passed(i, 2));
        }
        x.road(1);
        due("the first again", 0, x.prime(1));
    }

    private static void crashes() {
        bounds("metre", 1, 999, m -> new BunchRace().crash(m, 0));
        bounds("part", 0, 100, p -> new BunchRace().crash(999, p));
        BunchRace x = lone(60, 2000, 0, 5);
        due("crash", true, x.crash(100, 100));
        due("metre refused", false, x.crash(1000, 0));
        due("part refused", false, x.crash(200, 101));
        due("part refused", false, x.crash(200, -1));
        x.race(1);
        due("the crash as it was", 100, x.metres(0, 1));
        due("told anew", true, x.crash(200, 100));
        x.race(1);
        due("one crash, the new one", 200, x.metres(0, 1));
        due("held once", 1, x.told(0, 6));
    }

    private static void faults() {
        BunchRace x = new BunchRace();
        due("empty", NONE, x.fault());
        type(x, "n>0:1");
        due("whole", NONE, x.fault());
        due("asked again", NONE, x.fault());
        type(x, "x");
        due("at the first byte", 0, x.fault());
        due("asked again", 0, x.fault());
        type(x, "n");
        due("at the length", 1, x.fault());
        due("the tape stays", 1, x.count(5));
    }

    private static void orders() {
        bounds("team", 0, 4, t -> {
            BunchRace x = new BunchRace();
            type(x, "n>0:1");
            boolean taken = x.orders(t);
            due("the tape then", taken ? 0 : 5, x.count(5));
            return taken;
        });
        BunchRace x = lone(60, 2000, 0, 7);
        type(x, "n>0:1;");
        due("a fault at the end", false, x.orders(0));
        due("the tape stays", 6, x.count(5));
        type(x, "n>0:1;x");
        due("a fault", false, x.orders(0));
        due("no such team and a fault", false, x.orders(5));
        due("the tape stays", 7, x.count(5));
        x.race(1);
        due("orders as they were", 580, x.metres(0, 1));
        due("without the fault", true, x.end(5));
        due("no such team", false, x.orders(-1));
        x.race(1);
        due("orders as they were", 580, x.metres(0, 1));
        due("taken", true, x.orders(0));
        x.race(1);
        due("the new ones", 340, x.metres(0, 1));
        due("empty ones", true, x.orders(0));
        x.race(1);
        due("4 without", 460, x.metres(0, 1));
    }

    private static void choices() {
        BunchRace x = rivals("n>0:5");
        type(x, "n>0:1;");
        due("a fault", NONE, x.choice());
        due("none", 0, x.count(4));
        due("the tape stays", 6, x.count(5));
        x.end(5);
        due("the first", 0, x.choice());
        due("the tape is empty", 0, x.count(5));
        due("an empty one", 1, x.choice());
        type(x, "   ");
        due("one of blanks", 2, x.choice());
        due("the tape is empty", 0, x.count(5));
        due("the last", 3, x.choice());
        due("a fifth", NONE, x.choice());
        type(x, "n");
        due("a fifth with a fault", NONE, x.choice());
        due("the tape stays", 1, x.count(5));
        due("four", 4, x.count(4));
    }

    private static void races() {
        BunchRace x = new BunchRace();
        long[] seeds = {0, 1, -1, Long.MIN_VALUE, Long.MAX_VALUE};
        for (long seed : seeds) {
            due("no riders", NONE, x.race(seed));
            due("no race", NONE, x.count(7));
            due("nothing to keep", NONE, x.keep());
        }
        x.rider(0, 60, 2000, 0);
        for (long seed : seeds) {
            due("one rider", 3, x.race(seed));
            due("minutes", 3, x.count(7));
        }
        BunchRace y = new BunchRace();
        for (int i = 0; i < 20; i++) {
            y.rider(i % 5, 1, 0, 0);
        }
        due("twenty riders", 4, y.race(1));
    }

    private static void told() {
        BunchRace x = raced(3);
        for (int what = 0; what < 8; what++) {
            int itsWhat = what;
            bounds("rider of told " + what, 0, 2, r -> x.told(r, itsWhat) != NONE);
            due("rider 20", NONE, x.told(20, what));
        }
        bounds("what", 0, 7, w -> x.told(2, w) != NONE);
        int[] first = {1, 131, 1, 1000, 2000, 0, 0, 3 * 42};
        int[] last = {1, 131, 3, 1000, 2000, 0, 0, 3 * 29};
        for (int what = 0; what < 8; what++) {
            due("told(0, " + what + ")", first[what], x.told(0, what));
            due("told(2, " + what + ")", last[what], x.told(2, what));
        }
        due("a rider told since", 3, x.rider(0, 60, 2000, 0));
        for (int what = 0; what < 8; what++) {
            due("did not ride", NONE, x.told(3, what));
            due("those who rode, as before", last[what], x.told(2, what));
        }
        BunchRace y = new BunchRace();
        y.rider(0, 60, 2000, 0);
        for (int what = 0; what < 8; what++) {
            due("ahead of any", NONE, y.told(0, what));
        }
    }

    private static void places() {
        BunchRace x = raced(20);
        bounds("place", 1, 20, p -> x.at(p) != NONE);
        for (int place = 1; place <= 20; place++) {
            due("place " + place, place - 1, x.at(place));
        }
        bounds("place of three", 1, 3, p -> raced(3).at(p) != NONE);
        BunchRace y = raced(19);
        due("place 0", NONE, y.at(0));
        due("the nineteenth", 18, y.at(19));
        due("nobody is the twentieth", NONE, y.at(20));
        y.rider(0, 60, 2000, 0);
        due("nor one that was told since", NONE, y.at(20));
        BunchRace z = new BunchRace();
        z.rider(0, 60, 2000, 0);
        due("ahead of any", NONE, z.at(1));
    }

    private static void passed() {
        BunchRace x = new BunchRace();
        for (int i = 0; i < 4; i++) {
            x.rider(i, 60, 2000, 0);
        }
        due("ahead of any", NONE, x.passed(0, 1));
        for (int i = 0; i < 5; i++) {
            x.prime(200 * i + 199);
        }
        due("still ahead of any", NONE, x.passed(0, 1));
        x.race(1);
        for (int prime = 0; prime < 5; prime++) {
            int itsPrime = prime;
            bounds("place at prime " + prime, 1, 3, p -> x.passed(itsPrime, p) != NONE);
        }
        for (int place = 1; place <= 3; place++) {
            int itsPlace = place;
            bounds("prime with place " + place, 0, 4, i -> x.passed(i, itsPlace) == itsPlace - 1);
        }
        BunchRace y = new BunchRace();
        y.rider(0, 60, 2000, 0);
        y.rider(0, 60, 2000, 0);
        y.prime(500);
        y.race(1);
        due("second", 1, y.passed(0, 2));
        due("nobody is the third", NONE, y.passed(0, 3));
        due("no prime 1", NONE, y.passed(1, 1));
        y.prime(600);
        due("a prime that the race had not", NONE, y.passed(1, 1));
    }

    private static void metres() {
        BunchRace x = rivals("n>0:9", "n>0:0");
        due("ahead of any", NONE, x.metres(0, 0));
        due("minutes", 4, x.race(1));
        for (int rider = 0; rider < 2; rider++) {
            int itsRider = rider;
            due("0: 0", 0, x.metres(rider, 0));
            bounds("minute of rider " + rider, 0, 4, m -> x.metres(itsRider, m) != NONE);
        }
        for (int minute = 0; minute <= 4; minute++) {
            int itsMinute = minute;
            bounds("rider in minute " + minute, 0, 1, r -> x.metres(r, itsMinute) != NONE);
            due("rider 20", NONE, x.metres(20, minute));
        }
        due("in since the second", 1000, x.metres(0, 4));
        due("minute 400", NONE, x.metres(0, 400));
        due("minute 401", NONE, x.metres(0, 401));
        due("a product beyond the int", NONE, x.metres(0, 214748365));
        x.rider(0, 60, 2000, 0);
        due("one that did not ride", NONE, x.metres(2, 0));
        // A shorter race has no minutes of a longer one ahead of it.
        x.road(30);
        int longer = x.race(1);
        due("its last minute", 30000, x.metres(1, longer));
        x.road(1);
        x.race(1);
        due("behind the last", NONE, x.metres(1, 5));
        due("behind the last", NONE, x.metres(1, longer));
    }

    private static void groups() {
        BunchRace x = rivals("n>0:9", "n>0:0");
        due("ahead of any", NONE, x.groups(0));
        due("minutes", 4, x.race(1));
        bounds("minute", 0, 4, m -> x.groups(m) != NONE);
        int[] want = {1, 2, 1, 1, 0};
        for (int i = 0; i < want.length; i++) {
            due("groups(" + i + ")", want[i], x.groups(i));
        }
        due("minute 400", NONE, x.groups(400));
        due("minute 401", NONE, x.groups(401));
        x.road(30);
        int longer = x.race(1);
        due("its last minute", 0, x.groups(longer));
        x.road(1);
        x.race(1);
        due("behind the last", NONE, x.groups(5));
        due("behind the last", NONE, x.groups(longer));
        BunchRace y = new BunchRace();
        for (int i = 0; i < 20; i++) {
            y.rider(i % 5, 1, 100 * i, 0);
        }
        order(y, 0, "n>0:9");
        y.race(1);
        due("one group of twenty", 1, y.groups(0));
    }

    private static void groupsOnTheRoad() {
        // Twenty, each with a pace of its own as far as paces go: ten groups.
        BunchRace x = new BunchRace();
        for (int i = 0; i < 20; i++) {
            x.rider(i % 5, 60, 2000, 0);
        }
        for (int i = 0; i < 5; i++) {
            order(x, i, "p<11:" + i + ";p>10:" + (i + 5));
        }
        x.race(1);
        due("ten groups", 10, x.groups(1));
        // The one that is held is counted again as its three minutes are over.
        BunchRace y = rivals("n>0:9", "n>0:0");
        y.road(3);
        y.crash(600, 50);
        y.race(seedFor(50, true, false));
        int[] want = {1, 1, 1, 1, 2};
        for (int i = 0; i < want.length; i++) {
            due("groups(" + i + ")", want[i], y.groups(i));
        }
    }

    private static void keep() {
        BunchRace x = new BunchRace();
        due("no race", NONE, x.keep());
        x.rider(0, 60, 2000, 0);
        due("still no race", NONE, x.keep());
        due("no stage", 0, x.count(3));
        for (int i = 0; i < 20; i++) {
            x.race(i);
            due("stage", i, x.keep());
            due("it was kept", NONE, x.keep());
            due("how many", i + 1, x.count(3));
        }
        x.race(1);
        due("20 were", NONE, x.keep());
        due("twenty", 20, x.count(3));
        due("total of twenty", 20 * 131, x.sum(0, 0));
        due("points of twenty", 200, x.sum(0, 1));
        due("a race is run all the same", 3, x.race(2));
        BunchRace y = raced(1);
        y.race(2);
        due("the latest alone", 0, y.keep());
        due("not the one ahead of it", NONE, y.keep());
        due("total", 131, y.sum(0, 0));
        y.road(2);
        due("kept is kept, also with a new road", NONE, y.keep());
    }

    private static void limits() {
        bounds("limit", 1, 100, p -> new BunchRace().limit(p));
        bounds("limit behind a stage", 1, 100, p -> {
            BunchRace x = raced(2);
            x.keep();
            return x.limit(p);
        });
    }

    private static void sums() {
        BunchRace x = new BunchRace();
        due("no riders", NONE, x.sum(0, 0));
        for (int i = 0; i < 3; i++) {
            x.rider(i, 60, 2000, 0);
        }
        for (int what = 0; what <= 3; what++) {
            int itsWhat = what;
            bounds("rider of sum " + what, 0, 2, r -> x.sum(r, itsWhat) != NONE);
            due("rider 20", NONE, x.sum(20, what));
        }
        bounds("what", 0, 3, w -> x.sum(2, w) != NONE);
        int[] ahead = {0, 0, 0, 3};
        for (int what = 0; what <= 3; what++) {
            due("ahead of any, sum(2, " + what + ")", ahead[what], x.sum(2, what));
        }
        order(x, 2, "n>0:0");
        x.race(1);
        x.keep();
        // 131 seconds and 200: more than 120 hundredths.
        int[] out = {200, 4, 1, 0};
        for (int what = 0; what <= 3; what++) {
            due("out, sum(2, " + what + ")", out[what], x.sum(2, what));
        }
        int[] second = {131, 6, 0, 2};
        for (int what = 0; what <= 3; what++) {
            due("sum(1, " + what + ")", second[what], x.sum(1, what));
        }
        BunchRace y = raced(20);
        y.keep();
        due("the twentieth stands", 20, y.sum(19, 3));
    }

    private static BunchRace ofTeam(int team, int howMany) {
        BunchRace x = new BunchRace();
        for (int i = 0; i < howMany; i++) {
            x.rider(team, 60, 2000, 0);
        }
        return x;
    }

    private static void teams() {
        bounds("team", 0, 4, t -> {
            BunchRace x = new BunchRace();
            for (int i = 0; i < 15; i++) {
                x.rider(i % 5, 60, 2000, 0);
            }
            return x.team(t) == 0;
        });
        int[] want = {NONE, NONE, NONE, 0, 0};
        for (int i = 0; i < want.length; i++) {
            due("team of " + i, want[i], ofTeam(3, i).team(3));
            due("another team", NONE, ofTeam(3, i).team(2));
        }
        // 112, 107, 103 and 98 seconds: the limit leaves two, three or four of them.
        int[][] cases = {{9, 2, NONE}, {10, 1, 98 + 103 + 107}, {14, 1, 98 + 103 + 107}, {15, 0, 98 + 103 + 107}};
        for (int[] c : cases) {
            BunchRace x = ofTeam(3, 4);
            order(x, 3, "p=1:6;p=2:7;p=3:8;p=4:9");
            x.limit(c[0]);
            x.race(1);
            x.keep();
            due("those out with limit " + c[0], c[1], x.count(6));
            due("team with limit " + c[0], c[2], x.team(3));
        }
        // The same by lower numbers: 91, 95, 99 and 102 seconds.
        BunchRace z = ofTeam(3, 4);
        order(z, 3, "p=1:9;p=2:8;p=3:7;p=4:6");
        z.race(1);
        z.keep();
        due("the fourth does not count", 91 + 95 + 99, z.team(3));
        // The one that is out has the lowest total then, which does not count: 112; 219, 210 and 201.
        BunchRace y = ofTeam(3, 4);
        order(y, 3, "p=1:6;p=2:7;p=3:8;p=4:9");
        y.limit(14);
        y.race(1);
        y.keep();
        y.limit(100);
        y.race(1);
        y.keep();
        due("of one that is out", 112, y.sum(0, 0));
        due("of those not out", 219 + 210 + 201, y.team(3));
    }

    private static BunchRace withChoices(int riders, int choices) {
        BunchRace x = ofTeam(0, riders);
        for (int i = 0; i < choices; i++) {
            choose(x, i, "n>0:" + (i + 1));
        }
        return x;
    }

    private static void attempts() {
        bounds("team", 0, 4, t -> withChoices(1, 1).attempt(t, 500, 0, 0, 1) == (t == 0 ? 81 : 120));
        bounds("metre", 1, 999, m -> withChoices(1, 1).attempt(0, m, 0, 0, 1) == 81);
        bounds("first", 0, 3, a -> withChoices(1, 4).attempt(0, 500, a, 0, 1) == 81);
        bounds("then", 0, 3, b -> withChoices(1, 4).attempt(0, 500, 0, b, 1) == 81);
        due("no riders", NONE, withChoices(0, 1).attempt(0, 500, 0, 0, 1));
        due("no choices", NONE, withChoices(1, 0).attempt(0, 500, 0, 0, 1));
        BunchRace x = withChoices(1, 1);
        due("no race is needed", 81, x.attempt(0, 500, 0, 0, 1));
        due("and none was run", NONE, x.count(7));
        due("nothing to keep", NONE, x.keep());
        x.road(3);
        due("metres of the new road", 81, x.attempt(0, 2999, 0, 0, 1));
        x.road(2);
        due("metres of the old one", NONE, x.attempt(0, 2999, 0, 0, 1));
    }

    private static void bests() {
        bounds("team", 0, 4, t -> withChoices(1, 1).best(t, 500, 1) == 0);
        bounds("metre", 1, 999, m -> withChoices(1, 1).best(0, m, 1) == 0);
        due("no riders", NONE, withChoices(0, 4).best(0, 500, 1));
        due("no choices", NONE, withChoices(1, 0).best(0, 500, 1));
        // The other one has 95 seconds: pace 9 twice alone is faster, or pace 9 and 8.
        BunchRace x = rivals("k=1:8;n>0:9", "");
        for (int i = 0; i < 4; i++) {
            choose(x, i, "n>0:" + (i == 3 ? 9 : i));
        }
        due("the last pair", 33, x.best(1, 500, 1));
        // The other one has 131 seconds: 660 metres and then 300 a minute are 128.
        due("the first of the last ones", 30, x.best(0, 500, 1));
        due("no race was run", NONE, x.count(7));
    }

    private static void counts() {
        bounds("what", 0, 7, w -> raced(2).count(w) != NONE);
        due("no race", NONE, new BunchRace().count(7));
        BunchRace x = filled();
        int[] want = {20, 30, 5, 20, 4, 100};
        for (int i = 0; i < want.length; i++) {
            due("full: count(" + i + ")", want[i], x.count(i));
        }
        int out = 0;
        for (int i = 0; i < 20; i++) {
            out += x.sum(i, 2);
        }
        due("those out", out, x.count(6));
        due("some are out", true, out > 0 && out < 20);
        due("minutes", x.race(5), x.count(7));
        due("a second of those out", out, x.count(6));
    }

    /** Full, and the dearest call again and again: the last of 512 calls answers as the first. */
    private static void all512Calls() {
        BunchRace x = filled();
        int best = x.best(2, 15000, 9);
        for (int i = 0; i < 300; i++) {
            due("best", best, x.best(2, 15000, 9));
        }
        // Five calls to have it ready, 506 races: the 512th call is asked for.
        BunchRace y = lone(60, 2000, 0, 5);
        for (int i = 0; i < 506; i++) {
            due("race", 2, y.race(i));
        }
        due("the last call", 120, y.told(0, 1));
    }
}
