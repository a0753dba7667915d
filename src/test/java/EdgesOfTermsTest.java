/** Riders, roads, races and their minutes: a test for each sentence of "Terms" (part 1) that names an edge. */
public final class EdgesOfTermsTest extends Check {
    public static void main(String[] args) {
        sentence("TEAMS 0 .. 4", EdgesOfTermsTest::teams);
        sentence("RIDERS (20 at most), numbered as they are told", EdgesOfTermsTest::twentyRiders);
        sentence("STEADY (1 .. 60, power that they can always give)", EdgesOfTermsTest::steady);
        sentence("FULL (0 .. 2,000: what their STORE holds at most)", EdgesOfTermsTest::full);
        sentence("CLIMB (0 .. 50 hundredths less power for a rise)", EdgesOfTermsTest::climb);
        sentence("A ROAD has KILOMETRES (1 .. 30)", EdgesOfTermsTest::kilometres);
        sentence("each with a RISE (-5 .. 10)", EdgesOfTermsTest::rises);
        sentence("and a WIND (-3 .. 9)", EdgesOfTermsTest::winds);
        sentence("1,000 metres each", EdgesOfTermsTest::thousandMetresEach);
        sentence("PRIMES (5 at most)", EdgesOfTermsTest::fivePrimes);
        sentence("a metre (1 .. what the ROAD has, less 1)", EdgesOfTermsTest::metresOfPrimes);
        sentence("A CRASH may be told: a metre likewise", EdgesOfTermsTest::metresOfCrashes);
        sentence("and a PART (0 .. 100)", EdgesOfTermsTest::partsOfCrashes);
        sentence("A RACE begins with all RIDERS at metre 0, STORES full, MINUTE 0", EdgesOfTermsTest::beginnings);
        sentence("not IN, not HELD; those HELD have one minute less of it", EdgesOfTermsTest::heldMinutes);
        sentence("by greater metres, of alike ones by lower number", EdgesOfTermsTest::orderOfTheMinute);
        sentence("more than 20 metres behind the one ahead", EdgesOfTermsTest::edgesOfGroups);
        sentence("those HELD are in none", EdgesOfTermsTest::heldInNoGroup);
        sentence("the first CLAUSE of its TEAM's ORDERS that holds, 4 without", EdgesOfTermsTest::paceWithout);
        sentence("10 and 8 times p, .. cut, at least 0", EdgesOfTermsTest::powers);
        sentence("above 0: less CLIMB hundredths of that, cut; not asked below 0", EdgesOfTermsTest::climbIsCut);
        sentence("100 and 4 times WIND for the first of a GROUP", EdgesOfTermsTest::shareOfTheFirst);
        sentence("for its q-th place (q from 2 on) .. 20 by (q - 1), cut", EdgesOfTermsTest::sharesBehind);
        sentence("What POWER is above STEADY is taken from the STORE", EdgesOfTermsTest::takenFromTheStore);
        sentence("what it is below comes to it (FULL at most)", EdgesOfTermsTest::comesToTheStore);
        sentence("A PACE for which the STORE has too little is lessened by ones", EdgesOfTermsTest::lessenedPaces);
        sentence("with 0, too, the STORE is 0 then", EdgesOfTermsTest::emptyWithPaceNought);
        sentence("less 15 times RISE (also below 0) metres, at least 100", EdgesOfTermsTest::metresOfAMinute);
        sentence("Who comes to the end (KILOMETRES times 1,000) or beyond is IN", EdgesOfTermsTest::comingIn);
        sentence("60 times the metres that were left by what it goes, up", EdgesOfTermsTest::secondsUp);
        sentence("Who passes (comes to or beyond) a PRIME", EdgesOfTermsTest::comingToPrimes);
        sentence("for the first time likewise by its metres", EdgesOfTermsTest::primesOnce);
        sentence("Who passes the CRASH", EdgesOfTermsTest::comingToTheCrash);
        sentence("x, at first the seed of the RACE, .. (64 bits, going round)", EdgesOfTermsTest::lotsGoRound);
        sentence("for each that passes it, in that order of the MINUTE", EdgesOfTermsTest::lotsInOrder);
        sentence("modulo 100 is below PART", EdgesOfTermsTest::lotsBelowPart);
        sentence("it stands at that metre then and is HELD for 3 minutes", EdgesOfTermsTest::heldThreeMinutes);
        sentence("it passed no PRIME beyond, and is not IN", EdgesOfTermsTest::noPrimeBeyond);
        sentence("The RACE is over as all are IN, or behind 400 MINUTES", EdgesOfTermsTest::shortestAndLongest);
        sentence("PLACES: by seconds, of alike ones by lower numbers (none, if not IN)", EdgesOfTermsTest::placesBySeconds);
        sentence("first, second, third get 3, 2, 1 POINTS and as many seconds off", EdgesOfTermsTest::pointsOfPrimes);
        finish();
    }

    private static void teams() {
        bounds("a rider's team", 0, 4, t -> new BunchRace().rider(t, 30, 100, 0) == 0);
        for (int team = 0; team <= 4; team++) {
            BunchRace x = new BunchRace();
            x.rider(team, 60, 2000, 0);
            for (int other = 0; other <= 4; other++) {
                order(x, other, "n>0:" + other);
            }
            x.race(1);
            due("metres by orders of team " + team, 300 + 40 * team, x.metres(0, 1));
        }
    }

    private static void twentyRiders() {
        BunchRace x = new BunchRace();
        due("nobody", 0, x.count(0));
        for (int i = 0; i < 20; i++) {
            due("rider", i, x.rider(i % 5, 30, 100, 0));
            due("how many", i + 1, x.count(0));
        }
        due("a rider more", NONE, x.rider(0, 30, 100, 0));
        due("twenty", 20, x.count(0));
        x.race(1);
        due("the twentieth rides", 1, x.told(19, 0));
    }

    private static void steady() {
        bounds("steady", 1, 60, s -> new BunchRace().rider(0, s, 100, 0) == 0);
        // Pace 6 needs 58, pace 0 needs 10.
        int[][] cases = {{60, 540}, {58, 540}, {57, 500}, {1, 300}};
        for (int[] c : cases) {
            BunchRace x = lone(c[0], 0, 0, 9);
            x.race(1);
            due("metres of steady " + c[0], c[1], x.metres(0, 1));
        }
    }

    private static void full() {
        bounds("full", 0, 2000, f -> new BunchRace().rider(0, 30, f, 0) == 0);
        int[] fulls = {0, 1, 1999, 2000};
        for (int full : fulls) {
            BunchRace x = lone(60, full, 0, 0);
            x.race(1);
            due("the store holds at most", full, x.told(0, 4));
        }
        BunchRace y = lone(1, 2000, 0, 0);
        due("four minutes", 4, y.race(1));
        due("9 a minute out of 2,000", 2000 - 4 * 9, y.told(0, 4));
    }

    private static void climb() {
        bounds("climb", 0, 50, c -> new BunchRace().rider(0, 30, 100, c) == 0);
        int[][] cases = {{0, 40}, {1, 40}, {50, 25}};
        for (int[] c : cases) {
            BunchRace x = lone(60, 2000, c[0], 0);
            x.rise(0, 10, 0);
            due("150 metres a minute", 7, x.race(1));
            due("work of climb " + c[0], 7 * c[1], x.told(0, 7));
        }
    }

    private static void kilometres() {
        bounds("road", 1, 30, k -> new BunchRace().road(k));
        int[] roads = {1, 30};
        for (int kilometres : roads) {
            BunchRace x = lone(60, 2000, 0, 5);
            due("road", true, x.road(kilometres));
            due("kilometres", kilometres, x.count(1));
            due("minutes", 2 * kilometres, x.race(1));
            due("metres", 1000 * kilometres, x.told(0, 3));
            // Each has a rise of its own, the last one too.
            x.rise(kilometres - 1, 2, 0);
            x.race(1);
            int before = 2 * (kilometres - 1);
            due("to the last one", 1000 * (kilometres - 1), x.metres(0, before));
            due("in the last one", 1000 * (kilometres - 1) + 470, x.metres(0, before + 1));
        }
    }

    private static void rises() {
        bounds("rise", -5, 10, r -> new BunchRace().rise(0, r, 0));
        int[][] cases = {{-5, 375}, {10, 150}};
        for (int[] c : cases) {
            BunchRace x = lone(60, 2000, 0, 0);
            x.rise(0, c[0], 0);
            x.race(1);
            due("metres of rise " + c[0], c[1], x.metres(0, 1));
        }
    }

    private static void winds() {
        bounds("wind", -3, 9, w -> new BunchRace().rise(0, 0, w));
        int[][] cases = {{-3, 44}, {9, 68}};
        for (int[] c : cases) {
            BunchRace x = lone(60, 2000, 0, 5);
            x.rise(0, 0, c[0]);
            x.race(1);
            due("work of wind " + c[0], 2 * c[1], x.told(0, 7));
        }
    }

    /** Who stands at metre 999 is in the first kilometre, who stands at 1000 in the second. */
    private static void thousandMetresEach() {
        int[][] cases = {{999, 1499}, {1000, 1350}};
        for (int[] c : cases) {
            BunchRace x = lone(60, 2000, 0, 5);
            x.road(2);
            x.rise(1, 10, 0);
            x.crash(c[0], 100);
            x.race(1);
            due("stands", c[0], x.metres(0, 5));
            due("goes on to", c[1], x.metres(0, 6));
        }
        // The wind changes there too: 50 by 100 in the first, 50 by 136 in the second, for which 18 are taken.
        BunchRace y = lone(60, 2000, 0, 5);
        y.road(2);
        y.rise(1, 0, 9);
        y.race(1);
        due("work", 2 * 50 + 2 * 68, y.told(0, 7));
    }

    private static void fivePrimes() {
        BunchRace x = new BunchRace();
        due("none", 0, x.count(2));
        for (int i = 0; i < 5; i++) {
            due("prime", i, x.prime(100 + i));
            due("how many", i + 1, x.count(2));
        }
        due("a sixth", NONE, x.prime(100));
        due("five", 5, x.count(2));
        x.rider(0, 60, 2000, 0);
        x.race(1);
        due("points of all five", 15, x.told(0, 5));
        due("the fifth counts", 0, x.passed(4, 1));
        due("no sixth", NONE, x.passed(5, 1));
    }

    private static void metresOfPrimes() {
        bounds("prime of one kilometre", 1, 999, m -> new BunchRace().prime(m) == 0);
        bounds("prime of thirty", 1, 29999, m -> {
            BunchRace x = new BunchRace();
            return x.road(30) && x.prime(m) == 0;
        });
        bounds("prime behind a longer road", 1, 1999, m -> {
            BunchRace x = new BunchRace();
            return x.road(30) && x.road(2) && x.prime(m) == 0;
        });
    }

    private static void metresOfCrashes() {
        bounds("crash of one kilometre", 1, 999, m -> new BunchRace().crash(m, 50));
        bounds("crash of thirty", 1, 29999, m -> {
            BunchRace x = new BunchRace();
            return x.road(30) && x.crash(m, 50);
        });
        bounds("crash behind a longer road", 1, 1999, m -> {
            BunchRace x = new BunchRace();
            return x.road(30) && x.road(2) && x.crash(m, 50);
        });
    }

    private static void partsOfCrashes() {
        bounds("part", 0, 100, p -> new BunchRace().crash(500, p));
        for (int lot = 0; lot <= 99; lot += 99) {
            long seed = seedOfLot(lot);
            BunchRace x = lone(60, 2000, 0, 5);
            x.crash(500, 0);
            x.race(seed);
            due("held of part 0 with lot " + lot, 0, x.told(0, 6));
            x.crash(500, 100);
            x.race(seed);
            due("held of part 100 with lot " + lot, 1, x.told(0, 6));
        }
    }

    private static void beginnings() {
        BunchRace x = new BunchRace();
        for (int i = 0; i < 20; i++) {
            x.rider(i % 5, 1, 100 * i, 0);
            order(x, i % 5, "s=100:3;s=0:0;n>0:1");
        }
        x.road(3);
        int minutes = x.race(1);
        int[] stores = new int[20];
        for (int i = 0; i < 20; i++) {
            due("metre", 0, x.metres(i, 0));
            stores[i] = x.told(i, 4);
        }
        due("one group", 1, x.groups(0));
        due("again", minutes, x.race(1));
        for (int i = 0; i < 20; i++) {
            due("metre again", 0, x.metres(i, 0));
            due("store as it was the first time", stores[i], x.told(i, 4));
            due("rider 0 has none, the others are full", i == 0 ? 300 : 420, x.metres(i, 1));
        }
    }

    /** A lone rider that is held has no pace, work or store in those minutes. */
    private static void heldMinutes() {
        BunchRace x = lone(40, 100, 0, 5);
        x.road(2);
        x.crash(600, 100);
        // 500, 600 and held for three, 1100, 1600, 2000.
        due("minutes", 8, x.race(1));
        int[] want = {0, 500, 600, 600, 600, 600, 1100, 1600, 2000, NONE};
        for (int i = 0; i < want.length; i++) {
            due("minute " + i, want[i], x.metres(0, i));
        }
        due("work of five minutes", 5 * 50, x.told(0, 7));
        due("10 a minute out of the store", 50, x.told(0, 4));
        due("seconds: 7 minutes and 400 of 500 metres", 7 * 60 + 48, x.told(0, 1));
    }

    /**
     * Rider 0 has 1800 metres behind six minutes, rider 1 stands that many metres further (held till then);
     * rider 0 goes with pace 1 if it is the second of a group.
     */
    private static BunchRace near(int further) {
        BunchRace x = rivals("p=2:1;n>0:0", "n>0:9");
        x.road(4);
        due("crash", true, x.crash(1800 + further, 50));
        x.race(seedFor(50, true, false));
        due("rider 1 alone was held", 0, x.told(0, 6));
        due("rider 0", 1800, x.metres(0, 6));
        due("rider 1", 1800 + further, x.metres(1, 6));
        return x;
    }

    private static void orderOfTheMinute() {
        int[][] cases = {{-1, 2100}, {0, 2100}, {1, 2140}};
        for (int[] c : cases) {
            due("rider 1 " + c[0] + " ahead", c[1], near(c[0]).metres(0, 7));
        }
    }

    private static void edgesOfGroups() {
        int[][] cases = {{-21, 2, 2100}, {-20, 1, 2100}, {20, 1, 2140}, {21, 2, 2100}};
        for (int[] c : cases) {
            BunchRace x = near(c[0]);
            due("groups with rider 1 " + c[0] + " ahead", c[1], x.groups(6));
            due("rider 0 then", c[2], x.metres(0, 7));
        }
    }

    /** Both come to metre 500, where the first one is held: the second rides on alone. */
    private static void heldInNoGroup() {
        BunchRace x = rivals("n>0:5", "n=2:5;p=1:9;n>0:0");
        x.road(2);
        x.crash(500, 50);
        x.race(seedFor(50, true, false));
        due("rider 0 is held", 500, x.metres(0, 4));
        due("rider 1 stood there", 500, x.metres(1, 1));
        due("one group of one", 1, x.groups(1));
        due("rider 1 alone", 1160, x.metres(1, 2));
        // Both held: no group at all.
        x.race(seedFor(50, true, true));
        due("groups of those held", 0, x.groups(1));
        due("groups as they may go on", 1, x.groups(4));
    }

    private static void paceWithout() {
        String[] without = {"", " ", "n=0:9", "n>1:9;k>1:9;g>0:9;s<100:9;p>1:9"};
        for (String text : without) {
            BunchRace x = loneBy(60, 2000, 0, text);
            x.race(1);
            due("metres by '" + text + "'", 460, x.metres(0, 1));
        }
        BunchRace y = new BunchRace();
        y.rider(0, 60, 2000, 0);
        y.race(1);
        due("metres of a team without orders", 460, y.metres(0, 1));
        order(y, 0, "n=2:9;n=1:3;n=1:8");
        y.race(1);
        due("metres by the first that holds", 420, y.metres(0, 1));
    }

    private static void powers() {
        int[][] cases = {
            // rise, wind, pace, power
            {0, 0, 0, 10}, {0, 0, 1, 18}, {0, 0, 9, 82}, {1, 0, 0, 13}, {10, 9, 9, 152}, {0, 1, 4, 43}, {0, -1, 4, 40},
            {-3, 0, 0, 1}, {-4, 0, 0, 0}, {-5, 0, 0, 0}, {-5, 9, 0, 0}, {-5, 0, 1, 3}, {-5, -3, 9, 58},
        };
        for (int[] c : cases) {
            BunchRace x = lone(60, 2000, 0, c[2]);
            x.rise(0, c[0], c[1]);
            int minutes = x.race(1);
            String what = "work of rise " + c[0] + " wind " + c[1] + " pace " + c[2];
            due(what, (long) minutes * c[3], x.told(0, 7));
        }
    }

    private static void climbIsCut() {
        int[][] cases = {
            // rise, climb, power with pace 0: 10 and 3 times rise less what is cut
            {1, 0, 13}, {1, 33, 13}, {1, 34, 12}, {1, 50, 12}, {10, 3, 40}, {10, 4, 39}, {10, 49, 26}, {10, 50, 25},
            {0, 50, 10}, {-1, 0, 7}, {-1, 50, 7}, {-3, 50, 1},
        };
        for (int[] c : cases) {
            BunchRace x = lone(60, 2000, c[1], 0);
            x.rise(0, c[0], 0);
            int minutes = x.race(1);
            due("work of rise " + c[0] + " climb " + c[1], (long) minutes * c[2], x.told(0, 7));
        }
    }

    /** Pace 9 on a rise of 10 needs 112, so that each hundredth of a share is seen. */
    private static void shareOfTheFirst() {
        for (int wind = -3; wind <= 9; wind++) {
            BunchRace x = rivals("n>0:9", "n>0:0");
            x.rise(0, 10, wind);
            x.race(1);
            due("in behind two minutes", 1000, x.metres(0, 2));
            due("work of the first in wind " + wind, 2 * (112 * (100 + 4 * wind) / 100), x.told(0, 7));
        }
    }

    private static void sharesBehind() {
        BunchRace x = new BunchRace();
        for (int i = 0; i < 20; i++) {
            x.rider(0, 60, 2000, 0);
        }
        order(x, 0, "n>0:9");
        int[] cut = {20, 10, 6, 5, 4, 3, 2, 2, 2, 2, 1, 1, 1, 1, 1, 1, 1, 1, 1};
        for (int wind = -3; wind <= 9; wind++) {
            x.rise(0, 10, wind);
            due("two minutes", 2, x.race(1));
            for (int q = 2; q <= 20; q++) {
                int share = 60 + 2 * wind + cut[q - 2];
                due("work of place " + q + " in wind " + wind, 2 * (112 * share / 100), x.told(q - 1, 7));
            }
        }
        // Behind a gap the count of places begins anew: rider 1 has 420 metres, rider 2 300, each the first.
        BunchRace y = rivals("n>0:9", "n=3:3;n>0:5", "n=3:0;n>0:5");
        y.road(2);
        y.race(1);
        // 34 by 80 and 50, 50, 50, 50; 10 by 70 and 50, 50, 50, 50.
        due("work of rider 1", 27 + 4 * 50, y.told(1, 7));
        due("work of rider 2", 7 + 4 * 50, y.told(2, 7));
    }

    /** Pace 5 needs 50, thrice till metre 1500; pace 4 needs 42 then. */
    private static int storeWith(int steady, int full) {
        BunchRace x = loneBy(steady, full, 0, "k>28:5;n>0:4");
        x.road(30);
        x.race(1);
        return x.told(0, 4);
    }

    private static void takenFromTheStore() {
        due("8 taken thrice, then nothing", 100 - 24, storeWith(42, 100));
        BunchRace x = lone(41, 100, 0, 4);
        due("three minutes", 3, x.race(1));
        due("1 taken each minute", 97, x.told(0, 4));
        BunchRace y = lone(42, 100, 0, 4);
        y.race(1);
        due("nothing taken", 100, y.told(0, 4));
    }

    private static void comesToTheStore() {
        due("1 a minute comes, full long before the end", 100, storeWith(43, 100));
        // Three minutes of pace 5 (50) till metre 1500, then two of pace 4 (42).
        int[][] cases = {{48, 100}, {47, 100}, {46, 96}, {45, 91}};
        for (int[] c : cases) {
            BunchRace x = loneBy(c[0], 100, 0, "k>0:5;n<2:4");
            x.road(2);
            due("minutes", 5, x.race(1));
            due("store of steady " + c[0], c[1], x.told(0, 4));
        }
        BunchRace y = lone(60, 5, 0, 0);
        y.race(1);
        due("never more than full", 5, y.told(0, 4));
    }

    private static void lessenedPaces() {
        int[][] cases = {
            // steady, full, metres: pace 9 needs 82, pace 8 needs 74, pace 5 needs 50, pace 4 needs 42, pace 1 needs 18
            {60, 22, 660}, {60, 21, 620}, {40, 10, 500}, {40, 9, 460}, {8, 10, 340}, {8, 9, 300}, {10, 0, 300},
        };
        for (int[] c : cases) {
            BunchRace x = lone(c[0], c[1], 0, 9);
            x.race(1);
            due("metres of steady " + c[0] + " full " + c[1], c[2], x.metres(0, 1));
        }
        // The store itself is used up to its last: 22 of 22 in the first minute, then 58 with pace 6 brings 2.
        BunchRace y = lone(60, 22, 0, 9);
        y.road(2);
        due("minutes", 4, y.race(1));
        due("pace 9, 6, 6, 6", 660 + 540, y.metres(0, 2));
        due("store", 6, y.told(0, 4));
    }

    private static void emptyWithPaceNought() {
        int[][] cases = {
            // steady, full, store behind four minutes of pace 0 with power 10
            {9, 0, 0}, {9, 3, 0}, {9, 4, 0}, {9, 5, 1}, {1, 5, 0}, {1, 8, 0}, {1, 9, 0}, {1, 37, 1}, {10, 7, 7},
        };
        for (int[] c : cases) {
            BunchRace x = lone(c[0], c[1], 0, 0);
            due("four minutes", 4, x.race(1));
            due("store of steady " + c[0] + " full " + c[1], c[2], x.told(0, 4));
            due("it goes all the same", 300, x.metres(0, 1));
            due("its power counts as work", 40, x.told(0, 7));
        }
    }

    /** With RISE at most 10 the least is 150: nothing can show the 100. */
    private static void metresOfAMinute() {
        for (int rise = -5; rise <= 10; rise++) {
            for (int pace = 0; pace <= 9; pace++) {
                BunchRace x = lone(60, 2000, 0, pace);
                x.road(2);
                x.rise(0, rise, 0);
                x.race(1);
                due("metres of rise " + rise + " pace " + pace, 300 + 40 * pace - 15 * rise, x.metres(0, 1));
            }
        }
    }

    private static void comingIn() {
        BunchRace x = lone(60, 2000, 0, 5);
        due("to the metre", 2, x.race(1));
        due("in", 1, x.told(0, 0));
        due("seconds", 120, x.told(0, 1));
        due("metres", 1000, x.metres(0, 2));
        BunchRace y = lone(60, 2000, 0, 6);
        due("beyond", 2, y.race(1));
        due("metres of the road, not beyond", 1000, y.metres(0, 2));
        due("at the end", 1000, y.told(0, 3));
        BunchRace z = lone(60, 2000, 0, 5);
        z.crash(999, 100);
        z.race(1);
        due("a metre short", 999, z.metres(0, 2));
        due("not in for four minutes more", 6, z.count(7));
        // Who is in rides no more, though the race goes on.
        BunchRace w = rivals("n>0:9", "n>0:0");
        due("minutes", 4, w.race(1));
        due("work of two minutes", 2 * 82, w.told(0, 7));
        due("store of two minutes", 2000 - 2 * 22, w.told(0, 4));
        due("metres stay", 1000, w.metres(0, 4));
    }

    /** The last minute begins as many metres ahead of the end; 500 metres a minute. */
    private static int secondsWithLeft(int left) {
        BunchRace x = lone(60, 2000, 0, 5);
        x.crash(1000 - left, 100);
        due("minutes", 6, x.race(1));
        return x.told(0, 1) - 300;
    }

    private static void secondsUp() {
        int[][] cases = {{1, 1}, {8, 1}, {9, 2}, {24, 3}, {25, 3}, {26, 4}, {491, 59}, {492, 60}, {499, 60}};
        for (int[] c : cases) {
            due("seconds of " + c[0] + " metres", c[1], secondsWithLeft(c[0]));
        }
        BunchRace x = lone(60, 2000, 0, 5);
        x.race(1);
        due("a whole minute", 120, x.told(0, 1));
    }

    /** Rider 0 comes to metre 500 in its first minute and is held there; rider 1 passes it with 66 seconds. */
    private static BunchRace withPrime(int metre) {
        BunchRace x = rivals("n>0:5", "n>0:4");
        x.prime(metre);
        x.crash(500, 50);
        x.race(seedFor(50, true, false));
        due("rider 0 is held", 500, x.metres(0, 1));
        return x;
    }

    private static void comingToPrimes() {
        due("prime at 499", 0, withPrime(499).passed(0, 1));
        due("prime at 500", 0, withPrime(500).passed(0, 1));
        due("prime at 501", 1, withPrime(501).passed(0, 1));
        due("prime at 501, second", 0, withPrime(501).passed(0, 2));
        BunchRace x = rivals("n>0:4", "n>0:5");
        x.prime(460);
        x.race(1);
        // 60 seconds of rider 0, 56 of rider 1.
        due("first", 1, x.passed(0, 1));
        due("second", 0, x.passed(0, 2));
    }

    /** Standing at a prime, or going on from it, is not passing it again. */
    private static void primesOnce() {
        BunchRace x = withPrime(500);
        due("first", 0, x.passed(0, 1));
        due("second", 1, x.passed(0, 2));
        due("no third", NONE, x.passed(0, 3));
        due("3 points, once", 3, x.told(0, 5));
        due("2 points, once", 2, x.told(1, 5));
        // In later minutes by the metres that were left to it: 700 at 60 and 33 seconds (from 340 with 660) and at
        // 60 and 8 (from 660 with 300), 950 at 60 and 56 and at 60 and 58.
        BunchRace y = rivals("n=2:1;n>0:9", "n=2:9;n>0:0");
        y.prime(700);
        y.prime(950);
        y.race(1);
        due("68 seconds", 1, y.passed(0, 1));
        due("93 seconds", 0, y.passed(0, 2));
        due("116 seconds", 0, y.passed(1, 1));
        due("118 seconds", 1, y.passed(1, 2));
        due("points at both", 2 + 3, y.told(0, 5));
        due("points at both", 3 + 2, y.told(1, 5));
    }

    private static void comingToTheCrash() {
        int[][] cases = {{500, 1}, {501, 2}};
        for (int[] c : cases) {
            BunchRace x = lone(60, 2000, 0, 5);
            x.road(2);
            x.crash(c[0], 100);
            x.race(1);
            due("the minute it is held in", c[0], x.metres(0, c[1]));
            due("the minute ahead of it", 500 * (c[1] - 1), x.metres(0, c[1] - 1));
            due("held once, though it goes on from there", 1, x.told(0, 6));
        }
    }

    private static void lotsGoRound() {
        long[] seeds = {
            0L, 1L, -1L, 2L, Long.MAX_VALUE, Long.MIN_VALUE, Long.MAX_VALUE - 1, Long.MIN_VALUE + 1, 1L << 32, -(1L << 32),
            6364136223846793005L, -1442695040888963407L, 0x5555555555555555L, 0xaaaaaaaaaaaaaaaaL,
        };
        int[] parts = {1, 37, 63, 99};
        for (long seed : seeds) {
            int[] lots = lots(seed, 20);
            for (int part : parts) {
                BunchRace x = new BunchRace();
                for (int i = 0; i < 20; i++) {
                    x.rider(i % 5, 60, 2000, 0);
                }
                x.crash(300, part);
                x.race(seed);
                for (int i = 0; i < 20; i++) {
                    due("held of seed " + seed + " part " + part, lots[i] < part ? 1 : 0, x.told(i, 6));
                }
            }
        }
    }

    /** A lot for each that passes, whether held or not; none for those who don't pass in that minute. */
    private static void lotsInOrder() {
        BunchRace x = rivals("n>0:4", "n>0:5");
        x.road(2);
        // Both pass metre 700 in the second minute, rider 1 (500 metres) ahead of rider 0 (460).
        x.crash(700, 50);
        x.race(seedFor(50, true, false));
        due("rider 1 had the first lot", 1, x.told(1, 6));
        due("rider 0 had the second", 0, x.told(0, 6));
        x.race(seedFor(50, false, true));
        due("rider 1 had the first lot", 0, x.told(1, 6));
        due("rider 0 had the second", 1, x.told(0, 6));
        // Metre 480: rider 1 in the first minute, rider 0 in the second.
        x.crash(480, 50);
        x.race(seedFor(50, true, false));
        due("rider 1 passed first", 1, x.told(1, 6));
        due("rider 0 passed next", 0, x.told(0, 6));
        // Metre 450: both in the first minute, from metre 0, by number.
        x.crash(450, 50);
        x.race(seedFor(50, true, false));
        due("rider 0 had the first lot", 1, x.told(0, 6));
        due("rider 1 had the second", 0, x.told(1, 6));
    }

    private static void lotsBelowPart() {
        int[] some = {0, 1, 49, 50, 98, 99};
        for (int lot : some) {
            BunchRace x = lone(60, 2000, 0, 5);
            x.crash(500, lot);
            x.race(seedOfLot(lot));
            due("held of lot " + lot + " and part alike", 0, x.told(0, 6));
            x.crash(500, lot + 1);
            x.race(seedOfLot(lot));
            due("held of lot " + lot + " and part one more", 1, x.told(0, 6));
        }
    }

    private static void heldThreeMinutes() {
        int[] places = {1, 499, 500, 501, 999, 1000, 1001, 2999};
        for (int metre : places) {
            BunchRace x = lone(60, 2000, 0, 5);
            x.road(3);
            x.crash(metre, 100);
            x.race(1);
            int minute = (metre + 499) / 500;
            due("ahead of it", 500 * (minute - 1), x.metres(0, minute - 1));
            for (int i = 0; i <= 3; i++) {
                due("stands", metre, x.metres(0, minute + i));
                due("groups", i < 3 ? 0 : 1, x.groups(minute + i));
            }
            due("goes on", Math.min(3000, metre + 500), x.metres(0, minute + 4));
        }
    }

    private static void noPrimeBeyond() {
        BunchRace x = rivals("n>0:9", "n=2:4;n>0:9");
        x.road(2);
        x.prime(550);
        x.prime(551);
        x.prime(660);
        x.crash(550, 50);
        x.race(seedFor(50, true, false));
        // Rider 1 has 460 metres behind the first minute and passes all three in the second.
        due("at the crash", 0, x.passed(0, 1));
        due("a metre beyond", 1, x.passed(1, 1));
        due("where it would have come to", 1, x.passed(2, 1));
        due("a metre beyond, second", 0, x.passed(1, 2));
        BunchRace y = lone(60, 2000, 0, 9);
        y.crash(999, 100);
        y.race(1);
        due("not in in the second minute", 999, y.metres(0, 2));
        due("seconds of the sixth", 301, y.told(0, 1));
    }

    /** The slowest go 150 metres a minute and are held once: 400 minutes can't be come to. */
    private static void shortestAndLongest() {
        BunchRace x = lone(60, 2000, 0, 9);
        x.rise(0, -5, 0);
        due("the shortest", 2, x.race(1));
        due("minutes", 2, x.count(7));
        BunchRace y = lone(1, 0, 0, 0);
        y.road(30);
        for (int i = 0; i < 30; i++) {
            y.rise(i, 10, 9);
        }
        due("the longest without a crash", 200, y.race(1));
        y.crash(29999, 100);
        due("the longest", 204, y.race(1));
        due("all in", 1, y.told(0, 0));
        due("its last minute", 30000, y.metres(0, 204));
        due("behind it", NONE, y.metres(0, 205));
        BunchRace z = rivals("n>0:9", "n>0:0");
        due("not over as the first is in", 4, z.race(1));
    }

    /** 112 seconds by pace 5 and 7, and by pace 6 twice. */
    private static void placesBySeconds() {
        String[][] cases = {{"k=1:5;n>0:7", "n>0:6"}, {"n>0:6", "k=1:5;n>0:7"}};
        for (String[] c : cases) {
            BunchRace x = rivals(c);
            x.race(1);
            due("seconds of rider 0", 112, x.told(0, 1));
            due("seconds of rider 1", 112, x.told(1, 1));
            due("place of rider 0", 1, x.told(0, 2));
            due("place of rider 1", 2, x.told(1, 2));
            due("at(1)", 0, x.at(1));
            due("at(2)", 1, x.at(2));
        }
        // 111 seconds of rider 1 by pace 7 and 5.
        BunchRace y = rivals("n>0:6", "k=1:7;n>0:5");
        y.race(1);
        due("a second less", 1, y.told(1, 2));
        due("a second more", 2, y.told(0, 2));
        due("a rider told since", 2, y.rider(0, 60, 2000, 0));
        due("place of one that did not ride", NONE, y.told(2, 2));
        due("no third place", NONE, y.at(3));
    }

    private static void pointsOfPrimes() {
        BunchRace x = rivals("n>0:5", "n>0:5", "n>0:5", "n>0:5");
        x.prime(250);
        x.race(1);
        int[] want = {3, 2, 1, 0};
        for (int i = 0; i < 4; i++) {
            due("points of rider " + i, want[i], x.told(i, 5));
            due("seconds, none off in the race itself", 120, x.told(i, 1));
        }
        x.keep();
        for (int i = 0; i < 4; i++) {
            due("total of rider " + i, 120 - want[i], x.sum(i, 0));
        }
        due("a fourth is not told", NONE, x.passed(0, 4));
        // At the second prime they come in another order; rider 3 is the last at both.
        BunchRace y = rivals("k=1:4;n>0:9", "k=1:5;n>0:8", "k=1:6;n>0:0", "n>0:0");
        y.prime(300);
        y.prime(990);
        y.race(1);
        int[][] order = {{2, 1, 0}, {1, 0, 2}};
        for (int prime = 0; prime < 2; prime++) {
            for (int place = 1; place <= 3; place++) {
                due("prime " + prime + " place " + place, order[prime][place - 1], y.passed(prime, place));
            }
        }
        int[] both = {1 + 2, 2 + 3, 3 + 1, 0};
        for (int i = 0; i < 4; i++) {
            due("points at both of rider " + i, both[i], y.told(i, 5));
        }
    }
}
