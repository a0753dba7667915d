/** Stages, choices and trying: a test for each sentence of "Terms" (parts 2 and 3) that names an edge. */
public final class EdgesOfStagesTest extends Check {
    public static void main(String[] args) {
        sentence("of those who are IN seconds less those off come to the TOTAL", EdgesOfStagesTest::totals);
        sentence("of all POINTS come to the POINTS", EdgesOfStagesTest::pointsOfAll);
        sentence("those of PLACES 1, 2, 3 of the RACE 10, 6, 4 more", EdgesOfStagesTest::pointsOfPlaces);
        sentence("OUT is who is not IN", EdgesOfStagesTest::notInIsOut);
        sentence("more than 100 and LIMIT .. hundredths of the winner's seconds", EdgesOfStagesTest::tooLateIsOut);
        sentence("LIMIT (1 .. 100; 20 at first)", EdgesOfStagesTest::limits);
        sentence("those OUT ride no more", EdgesOfStagesTest::outRideNoMore);
        sentence("STANDING: by TOTALS, the lowest first", EdgesOfStagesTest::standingByTotals);
        sentence("of alike ones by more POINTS, then by lower number", EdgesOfStagesTest::standingOfAlikeOnes);
        sentence("of those not OUT", EdgesOfStagesTest::standingWithoutOut);
        sentence("CHOICES (4 at most): ORDERS that are kept", EdgesOfStagesTest::fourChoices);
        sentence("TRYING a TEAM, with a metre (1 .. ROAD's, less 1)", EdgesOfStagesTest::metresOfTrying);
        sentence("for each pair of CHOICES (a, b; also alike)", EdgesOfStagesTest::pairs);
        sentence("the foremost of them .. is at the metre or beyond", EdgesOfStagesTest::changeAtTheMetre);
        sentence("the foremost of them, one that is HELD too", EdgesOfStagesTest::changeByOneHeld);
        sentence("(IN is at the end)", EdgesOfStagesTest::changeByOneIn);
        sentence("all others by their ORDERS", EdgesOfStagesTest::othersByTheirOrders);
        sentence("the same seed", EdgesOfStagesTest::sameSeed);
        sentence("its first three that are IN (40 for each that lacks)", EdgesOfStagesTest::scores);
        sentence("BEST is the pair of the lowest SCORE; of several the one that comes first", EdgesOfStagesTest::bests);
        finish();
    }

    /** A rider for each pair of paces: the first in its first minute, the second then. */
    private static BunchRace byTwoPaces(int[]... paces) {
        String[] texts = new String[paces.length];
        for (int i = 0; i < paces.length; i++) {
            texts[i] = "k=1:" + paces[i][0] + ";n>0:" + paces[i][1];
        }
        return rivals(texts);
    }

    private static void totals() {
        BunchRace x = rivals("n>0:5", "n>0:5", "n>0:5", "n>0:5");
        for (int i = 0; i < 5; i++) {
            x.prime(1 + i);
        }
        for (int stage = 1; stage <= 20; stage++) {
            x.race(stage);
            x.keep();
            int[] off = {15, 10, 5, 0};
            for (int i = 0; i < 4; i++) {
                due("total of rider " + i, stage * (120 - off[i]), x.sum(i, 0));
            }
        }
        BunchRace y = rivals("n>0:5");
        due("before any", 0, y.sum(0, 0));
        y.race(1);
        due("not kept", 0, y.sum(0, 0));
    }

    /** Rider 1 is too late, and still has its points, seconds and seconds off. */
    private static void pointsOfAll() {
        BunchRace x = byTwoPaces(new int[] {5, 5}, new int[] {6, 0}, new int[] {5, 5});
        x.prime(540);
        x.limit(1);
        x.race(1);
        due("seconds of rider 0", 120, x.told(0, 1));
        due("seconds of rider 1: 540, 840, 160 of 300", 152, x.told(1, 1));
        due("rider 1 passed first", 1, x.passed(0, 1));
        x.keep();
        due("out", 1, x.sum(1, 2));
        due("points of one that is out now", 3 + 4, x.sum(1, 1));
        due("total of one that is out now", 149, x.sum(1, 0));
        due("points of rider 0", 2 + 10, x.sum(0, 1));
        due("points of rider 2", 1 + 6, x.sum(2, 1));
    }

    private static void pointsOfPlaces() {
        BunchRace x = rivals("n>0:5", "n>0:6", "n>0:7", "n>0:8");
        x.race(1);
        x.keep();
        int[] want = {0, 4, 6, 10};
        for (int i = 0; i < 4; i++) {
            due("points of rider " + i, want[i], x.sum(i, 1));
        }
        BunchRace y = rivals("n>0:5");
        y.race(1);
        y.keep();
        due("points of one alone", 10, y.sum(0, 1));
    }

    private static void notInIsOut() {
        BunchRace x = rivals("n>0:5");
        x.prime(500);
        x.race(1);
        due("told behind the race", 1, x.rider(1, 60, 2000, 0));
        due("not out ahead of the stage", 0, x.sum(1, 2));
        due("stands", 2, x.sum(1, 3));
        x.keep();
        due("not in, so out", 1, x.sum(1, 2));
        due("does not stand", 0, x.sum(1, 3));
        due("no total", 0, x.sum(1, 0));
        due("no points", 0, x.sum(1, 1));
        due("one that was in", 0, x.sum(0, 2));
        due("its total", 117, x.sum(0, 0));
    }

    /** Whether rider 1 is out behind one stage of one kilometre. */
    private static int outWith(int limit, int[] winner, int[] other, int winnerSeconds, int otherSeconds) {
        BunchRace x = byTwoPaces(winner, other);
        if (limit != 0) {
            due("limit", true, x.limit(limit));
        }
        x.race(1);
        due("the winner's seconds", winnerSeconds, x.told(0, 1));
        due("the other's seconds", otherSeconds, x.told(1, 1));
        x.keep();
        due("the winner", 0, x.sum(0, 2));
        due("those out", x.sum(1, 2), x.count(6));
        return x.sum(1, 2);
    }

    private static void tooLateIsOut() {
        int[] hundred = {8, 7};
        due("limit 1: 101 of 100", 0, outWith(1, hundred, new int[] {7, 8}, 100, 101));
        due("limit 1: 102 of 100", 1, outWith(1, hundred, new int[] {6, 9}, 100, 102));
        due("limit 2: 102 of 100", 0, outWith(2, hundred, new int[] {6, 9}, 100, 102));
        due("limit 40: 140 of 100", 0, outWith(40, hundred, new int[] {1, 5}, 100, 140));
        due("limit 40: 141 of 100", 1, outWith(40, hundred, new int[] {2, 4}, 100, 141));
        due("limit 99: 200 of 100", 1, outWith(99, hundred, new int[] {0, 0}, 100, 200));
        due("limit 100: 200 of 100", 0, outWith(100, hundred, new int[] {0, 0}, 100, 200));
        // Not whole: 120 hundredths of 109 are 130.8.
        due("limit 20: 130 of 109", 0, outWith(20, new int[] {9, 3}, new int[] {3, 5}, 109, 130));
        due("limit 20: 131 of 109", 1, outWith(20, new int[] {9, 3}, new int[] {4, 4}, 109, 131));
        BunchRace x = rivals("n>0:9", "n>0:2");
        x.rise(0, 7, 0);
        x.limit(100);
        x.race(1);
        due("109", 109, x.told(0, 1));
        due("219", 219, x.told(1, 1));
        x.keep();
        due("limit 100: 219 of 109", 1, x.sum(1, 2));
    }

    private static void limits() {
        bounds("limit", 1, 100, p -> new BunchRace().limit(p));
        due("at first: 132 of 110", 0, outWith(0, new int[] {8, 4}, new int[] {5, 3}, 110, 132));
        due("at first: 133 of 110", 1, outWith(0, new int[] {8, 4}, new int[] {6, 2}, 110, 133));
        // The limit at the time of keeping counts; one that is refused does not.
        BunchRace x = byTwoPaces(new int[] {8, 4}, new int[] {6, 2});
        x.limit(1);
        x.race(1);
        x.limit(21);
        due("refused", false, x.limit(101));
        due("refused", false, x.limit(0));
        x.keep();
        due("21 hundredths", 0, x.sum(1, 2));
    }

    private static void outRideNoMore() {
        BunchRace x = byTwoPaces(new int[] {8, 4}, new int[] {6, 2}, new int[] {8, 4});
        due("minutes with it", 3, x.race(1));
        x.keep();
        due("out", 1, x.sum(1, 2));
        due("minutes without it", 2, x.race(1));
        for (int what = 0; what <= 7; what++) {
            due("told of one that is out", NONE, x.told(1, what));
        }
        due("metres of one that is out", NONE, x.metres(1, 0));
        due("second now", 2, x.at(2));
        due("no third", NONE, x.at(3));
        x.limit(100);
        x.keep();
        due("out for good", 1, x.sum(1, 2));
        due("its total stays", 133, x.sum(1, 0));
        due("its points stay", 4, x.sum(1, 1));
        due("those out", 1, x.count(6));
        due("rider 2", 220, x.sum(2, 0));
        // In a group, too, it is no more: rider 2 is the second, not the third.
        BunchRace y = rivals("n>0:9", "n>0:0", "n=3:9;n=2:1");
        y.limit(100);
        y.race(1);
        y.keep();
        due("out", 1, y.sum(1, 2));
        y.race(1);
        due("two in the group", 340, y.metres(2, 1));
        // Nor does it pass a prime: what it had in the race ahead is gone.
        BunchRace z = byTwoPaces(new int[] {6, 2}, new int[] {8, 4}, new int[] {8, 4});
        z.prime(1);
        z.race(1);
        due("first at the prime", 0, z.passed(0, 1));
        z.keep();
        due("out", 1, z.sum(0, 2));
        z.race(1);
        due("first at the prime now", 1, z.passed(0, 1));
        due("second at the prime now", 2, z.passed(0, 2));
        due("nobody is the third", NONE, z.passed(0, 3));
        z.keep();
        due("its points stay", 3 + 4, z.sum(0, 1));
    }

    private static void standingByTotals() {
        BunchRace x = rivals("n>0:5", "n>0:6", "n>0:4");
        due("before any", 1, x.sum(0, 3));
        due("before any", 3, x.sum(2, 3));
        x.race(1);
        due("not kept", 2, x.sum(1, 3));
        x.keep();
        due("112", 1, x.sum(1, 3));
        due("120", 2, x.sum(0, 3));
        due("131", 3, x.sum(2, 3));
        // A second less by a prime: 112 and 112 seconds, rider 1 passes metre 540 first.
        BunchRace y = rivals("k=1:5;n>0:7", "n>0:6");
        y.prime(540);
        y.race(1);
        due("the winner", 0, y.at(1));
        y.keep();
        due("109", 109, y.sum(1, 0));
        due("110", 110, y.sum(0, 0));
        due("the lower total", 1, y.sum(1, 3));
        due("the higher total", 2, y.sum(0, 3));
    }

    private static void standingOfAlikeOnes() {
        // 112 seconds both: 10 and 6 points.
        BunchRace x = rivals("n>0:4", "n>0:6", "k=1:5;n>0:7");
        x.race(1);
        x.keep();
        due("112", 112, x.sum(1, 0));
        due("112", 112, x.sum(2, 0));
        due("10 points", 1, x.sum(1, 3));
        due("6 points", 2, x.sum(2, 3));
        // Rider 1 has a point more than rider 0 with the total alike: 240 less 10, 245 less 15.
        BunchRace y = rivals("n>0:5", "n=2:9;g=4:5;k=0:5;n>0:0");
        y.road(2);
        for (int i = 0; i < 5; i++) {
            y.prime(600);
        }
        y.race(1);
        y.keep();
        due("230", 230, y.sum(0, 0));
        due("230", 230, y.sum(1, 0));
        due("20 points", 20, y.sum(0, 1));
        due("21 points", 21, y.sum(1, 1));
        due("more points", 1, y.sum(1, 3));
        due("fewer points", 2, y.sum(0, 3));
        // Alike in both: four of 131 seconds and no points behind three ahead.
        BunchRace z = new BunchRace();
        for (int i = 0; i < 7; i++) {
            z.rider(i < 4 ? 0 : 1, 60, 2000, 0);
        }
        order(z, 1, "n>0:5");
        z.race(1);
        z.keep();
        for (int i = 0; i < 4; i++) {
            due("lower number", 4 + i, z.sum(i, 3));
            due("no points", 0, z.sum(i, 1));
        }
    }

    private static void standingWithoutOut() {
        BunchRace x = byTwoPaces(new int[] {6, 2}, new int[] {8, 4}, new int[] {5, 3});
        x.race(1);
        due("not out yet", 1, x.sum(0, 3));
        x.keep();
        due("out", 0, x.sum(0, 3));
        due("first", 1, x.sum(1, 3));
        due("second", 2, x.sum(2, 3));
    }

    private static void fourChoices() {
        BunchRace x = new BunchRace();
        due("none", 0, x.count(4));
        for (int i = 0; i < 4; i++) {
            choose(x, i, "n>0:" + (2 * i));
            due("how many", i + 1, x.count(4));
        }
        type(x, "n>0:9");
        due("a fifth", NONE, x.choice());
        due("four", 4, x.count(4));
        due("the tape stays", 5, x.count(5));
        // Each is kept as it was told: against 120 seconds of pace 5, alone pace 6 is faster.
        x.rider(0, 60, 2000, 0);
        x.rider(1, 60, 2000, 0);
        due("orders", true, x.orders(2));
        order(x, 0, "n>0:5");
        for (int i = 0; i < 4; i++) {
            due("choice " + i, i < 3 ? 82 : 81, x.attempt(1, 500, i, i, 1));
        }
        due("the fourth is the best", 30, x.best(1, 999, 1));
    }

    private static BunchRace tried(int kilometres) {
        BunchRace x = rivals("n>0:5");
        x.road(kilometres);
        choose(x, 0, "n>0:9");
        return x;
    }

    private static void metresOfTrying() {
        bounds("attempt on one kilometre", 1, 999, m -> tried(1).attempt(0, m, 0, 0, 1) == 81);
        bounds("attempt on thirty", 1, 29999, m -> tried(30).attempt(0, m, 0, 0, 1) == 81);
        bounds("best on one kilometre", 1, 999, m -> tried(1).best(0, m, 1) == 0);
        bounds("best on thirty", 1, 29999, m -> tried(30).best(0, m, 1) == 0);
        due("refused is NONE", NONE, tried(1).attempt(0, 1000, 0, 0, 1));
        due("refused is NONE", NONE, tried(1).best(0, 0, 1));
    }

    private static void pairs() {
        for (int choices = 1; choices <= 4; choices++) {
            int howMany = choices;
            bounds("first of " + choices, 0, choices - 1, a -> withChoices(howMany).attempt(0, 500, a, 0, 1) != NONE);
            bounds("then of " + choices, 0, choices - 1, b -> withChoices(howMany).attempt(0, 500, 0, b, 1) != NONE);
        }
        due("without choices", NONE, withChoices(0).attempt(0, 500, 0, 0, 1));
        due("best without choices", NONE, withChoices(0).best(0, 500, 1));
        due("best of one: the pair alike", 0, withChoices(1).best(0, 500, 1));
        // Pace 4, as without orders, would be better than the one choice; it is no choice.
        BunchRace x = rivals("n>0:1", "");
        choose(x, 0, "n>0:0");
        due("no choice behind the last", 0, x.best(1, 1, 1));
    }

    private static BunchRace withChoices(int choices) {
        BunchRace x = rivals("n>0:5");
        for (int i = 0; i < choices; i++) {
            choose(x, i, "n>0:" + i);
        }
        return x;
    }

    /** Rider 0 has 120 seconds; rider 1 has 660 metres behind a minute of the first choice. */
    private static void changeAtTheMetre() {
        BunchRace x = rivals("n>0:5", "");
        choose(x, 0, "n>0:9");
        choose(x, 1, "n>0:0");
        due("fast throughout: 91 seconds", 81, x.attempt(1, 1, 0, 0, 1));
        due("slow from the second minute on: 128 seconds", 82, x.attempt(1, 659, 0, 1, 1));
        due("at the metre", 82, x.attempt(1, 660, 0, 1, 1));
        due("a metre short", 81, x.attempt(1, 661, 0, 1, 1));
        due("the first minute goes by the first: 124 seconds", 82, x.attempt(1, 1, 1, 0, 1));
        due("metre 300 is there as the second begins", 82, x.attempt(1, 300, 1, 0, 1));
        order(x, 0, "n>0:4");
        // 131 seconds of rider 0: 124 seconds are less, 157 (from the third minute on) are more.
        due("from the second minute on", 81, x.attempt(1, 300, 1, 0, 1));
        due("from the third minute on", 82, x.attempt(1, 301, 1, 0, 1));
        due("from the third minute on", 82, x.attempt(1, 600, 1, 0, 1));
        due("the metres of another team are not asked", 82, x.attempt(1, 460, 1, 0, 1));
        // The same for rider 0, which is ahead of alike ones: 120 seconds of rider 1.
        BunchRace y = rivals("", "n>0:5");
        choose(y, 0, "n>0:9");
        choose(y, 1, "n>0:0");
        due("rider 0 at the metre", 82, y.attempt(0, 660, 0, 1, 1));
        due("rider 0 a metre short", 81, y.attempt(0, 661, 0, 1, 1));
    }

    /** Rider 1 is held at metre 400 in the first minute; rider 2 of its team has 300 metres then. */
    private static void changeByOneHeld() {
        BunchRace x = new BunchRace();
        x.rider(0, 60, 2000, 0);
        x.rider(1, 60, 2000, 0);
        x.rider(1, 60, 2000, 0);
        order(x, 0, "n=3:1;n>0:6");
        choose(x, 0, "p=2:9;n>0:0");
        choose(x, 1, "n>0:9");
        x.crash(400, 50);
        long seed = seedFor(50, true, false, false);
        // Rider 0 has 134 seconds, rider 2 124 or (a minute later) 157, rider 1 295.
        due("at the metre of the one held", 1 + 3 + 40, x.attempt(1, 400, 0, 1, seed));
        due("a metre beyond it", 2 + 3 + 40, x.attempt(1, 401, 0, 1, seed));
    }

    /** Rider 1 is in with 91 seconds; then rider 2 has 157 by the second choice or 200 by the first, rider 0 177. */
    private static void changeByOneIn() {
        BunchRace x = new BunchRace();
        x.rider(0, 60, 2000, 0);
        x.rider(1, 60, 2000, 0);
        x.rider(1, 60, 2000, 0);
        order(x, 0, "n>0:1");
        choose(x, 0, "p=2:9;s=99:9;n>0:0");
        choose(x, 1, "n>0:9");
        due("without a change", 1 + 3 + 40, x.attempt(1, 999, 0, 0, 1));
        due("at the end is beyond every metre", 1 + 2 + 40, x.attempt(1, 999, 0, 1, 1));
    }

    private static void othersByTheirOrders() {
        BunchRace x = rivals("n>0:4", "n>0:9", "n>0:7");
        choose(x, 0, "n>0:6");
        // 131, 91 and 104 seconds; 112 by the choice.
        due("rider 0 by the choice", 3 + 80, x.attempt(0, 500, 0, 0, 1));
        due("rider 1 by the choice, not by its orders", 2 + 80, x.attempt(1, 500, 0, 0, 1));
        due("rider 2 by the choice, not by its orders", 2 + 80, x.attempt(2, 500, 0, 0, 1));
        due("a team without riders", 120, x.attempt(4, 500, 0, 0, 1));
        x.race(1);
        due("the orders stand as they were", 91, x.told(1, 1));
    }

    private static void sameSeed() {
        BunchRace x = rivals("n>0:5", "");
        choose(x, 0, "n>0:9");
        x.crash(600, 50);
        long free = seedFor(50, false, false);
        long held = seedFor(50, true, false);
        due("a lot that lets it through", 81, x.attempt(1, 500, 0, 0, free));
        due("a lot that holds it", 82, x.attempt(1, 500, 0, 0, held));
        due("the same again", 81, x.attempt(1, 500, 0, 0, free));
        // Of all pairs alike: the second one does not go on with the lots of the first.
        choose(x, 1, "n>0:9");
        due("all pairs have that lot", 0, x.best(1, 500, held));
        choose(x, 2, "n>0:8");
        for (int a = 0; a < 3; a++) {
            for (int b = 0; b < 3; b++) {
                due("each pair", 81, x.attempt(1, 500, a, b, free));
            }
        }
        long[] ends = {0L, -1L, Long.MAX_VALUE, Long.MIN_VALUE};
        for (long seed : ends) {
            int[] lots = lots(seed, 2);
            x.crash(600, lots[0]);
            due("part alike, seed " + seed, 81, x.attempt(1, 500, 0, 0, seed));
            x.crash(600, lots[0] + 1);
            // Rider 0 comes to the crash a minute later; held as well, it is behind still.
            due("part one more, seed " + seed, lots[1] <= lots[0] ? 81 : 82, x.attempt(1, 500, 0, 0, seed));
        }
    }

    private static void scores() {
        int[] want = {120, 81, 1 + 2 + 40, 6, 6, 6};
        for (int riders = 0; riders <= 5; riders++) {
            BunchRace x = new BunchRace();
            for (int i = 0; i < riders; i++) {
                x.rider(2, 60, 2000, 0);
            }
            x.rider(3, 60, 2000, 0);
            choose(x, 0, "n>0:5");
            due("score of " + riders, want[riders], x.attempt(2, 500, 0, 0, 1));
        }
        // The last three of twenty.
        BunchRace y = new BunchRace();
        for (int i = 0; i < 20; i++) {
            y.rider(i < 17 ? 0 : 1, 60, 2000, 0);
        }
        choose(y, 0, "n>0:3");
        due("the last three", 18 + 19 + 20, y.attempt(1, 500, 0, 0, 1));
        // Those out lack.
        BunchRace z = new BunchRace();
        z.rider(0, 60, 2000, 0);
        z.rider(1, 60, 2000, 0);
        z.rider(1, 60, 2000, 0);
        order(z, 1, "p=3:0;p=2:9;s>99:0;n>0:9");
        order(z, 0, "n>0:9");
        choose(z, 0, "n>0:9");
        due("two of it", 2 + 3 + 40, z.attempt(1, 500, 0, 0, 1));
        z.race(1);
        z.keep();
        due("one is out", 1, z.count(6));
        due("one of it", 2 + 80, z.attempt(1, 500, 0, 0, 1));
    }

    /** Rider 0 has 112 seconds; 660 metres and then 300, 460 or 660: 128, 105 or 91 seconds. */
    private static void bests() {
        BunchRace x = rivals("n>0:6", "");
        choose(x, 0, "n>0:0");
        choose(x, 1, "n>0:4");
        choose(x, 2, "n>0:9");
        choose(x, 3, "n>0:9");
        due("(2, 1) is the first that wins", 21, x.best(1, 500, 1));
        due("(2, 0) as nothing changes ahead of the end", 20, x.best(1, 999, 1));
        due("score of (2, 0)", 82, x.attempt(1, 500, 2, 0, 1));
        due("score of (2, 1)", 81, x.attempt(1, 500, 2, 1, 1));
        due("score of (3, 3), alike", 81, x.attempt(1, 500, 3, 3, 1));
        due("all alike: (0, 0)", 0, x.best(4, 500, 1));
        BunchRace y = rivals("k=1:8;n>0:9", "");
        choose(y, 0, "n>0:0");
        choose(y, 1, "n>0:7");
        choose(y, 2, "n>0:8");
        choose(y, 3, "n>0:9");
        // 95 seconds of rider 0: 91 by (3, 3), 93 by (3, 2).
        due("(3, 2) ahead of (3, 3)", 32, y.best(1, 500, 1));
        order(y, 0, "k=1:9;n>0:8");
        due("(3, 3) alone", 33, y.best(1, 500, 1));
    }
}
