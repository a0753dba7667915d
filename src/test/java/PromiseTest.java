/** For each promise of the document: ordinary calls, the edges it names and wrong inputs, worked out by hand. */
public final class PromiseTest extends Check {
    public static void main(String[] args) {
        aNewObject();
        riders();
        roads();
        risesAndWinds();
        slopesAndClimbs();
        primes();
        primesInRaces();
        crashes();
        feeding();
        ending();
        faults();
        ordersTaken();
        clausesAsk();
        gapsAndHeldOnes();
        storesEmptyAndFill();
        choices();
        races();
        toldOnes();
        places();
        metresByMinute();
        groupsByMinute();
        keeping();
        keepingLateRiders();
        limits();
        sums();
        standings();
        teams();
        attempts();
        attemptSwitches();
        bests();
        counts();
        finish();
    }

    private static void aNewObject() {
        BunchRace x = new BunchRace();
        int[] want = {0, 1, 0, 0, 0, 0, 0, NONE};
        for (int i = 0; i < want.length; i++) {
            due("new: count(" + i + ")", want[i], x.count(i));
        }
        x.rider(0, 60, 0, 0);
        due("new: race", 3, x.race(1));
        due("new: flat", 460, x.metres(0, 1));
        due("new: calm", 3 * 42, x.told(0, 7));
        due("new: seconds", 131, x.told(0, 1));
    }

    private static void riders() {
        BunchRace x = new BunchRace();
        int[][] refused = {
            {-1, 30, 10, 0}, {5, 30, 10, 0}, {0, 0, 10, 0}, {0, 61, 10, 0}, {0, 30, -1, 0}, {0, 30, 2001, 0},
            {0, 30, 10, -1}, {0, 30, 10, 51}, {Integer.MAX_VALUE, 30, 10, 0}, {0, 30, Integer.MIN_VALUE, 0},
        };
        for (int[] r : refused) {
            due("rider refused", NONE, x.rider(r[0], r[1], r[2], r[3]));
        }
        due("none came", 0, x.count(0));
        due("rider at the lower edges", 0, x.rider(0, 1, 0, 0));
        due("rider at the upper edges", 1, x.rider(4, 60, 2000, 50));
        for (int i = 2; i < 20; i++) {
            due("rider " + i, i, x.rider(i % 5, 30, 100, 0));
        }
        due("rider 20", NONE, x.rider(0, 30, 100, 0));
        due("twenty", 20, x.count(0));
        BunchRace y = lone(60, 0, 0, 4);
        y.race(1);
        due("rider behind a race", 1, y.rider(0, 30, 100, 0));
        y.race(1);
        y.keep();
        due("rider behind a stage", NONE, y.rider(0, 30, 100, 0));
        due("two", 2, y.count(0));
    }

    private static void roads() {
        BunchRace x = lone(60, 0, 0, 5);
        due("road(0)", false, x.road(0));
        due("road(-1)", false, x.road(-1));
        due("road(31)", false, x.road(31));
        due("road(30)", true, x.road(30));
        due("thirty", 30, x.count(1));
        due("race of 30 kilometres", 60, x.race(1));
        due("rise", true, x.rise(0, 10, 9));
        due("rise", true, x.rise(29, 10, 9));
        due("prime", 0, x.prime(29999));
        due("crash", true, x.crash(1, 100));
        due("road refused changes nothing", false, x.road(31));
        due("primes", 1, x.count(2));
        due("road(30)", true, x.road(30));
        due("no primes", 0, x.count(2));
        due("flat and calm without crash", 60, x.race(1));
        due("work", 60 * 50, x.told(0, 7));
        due("held", 0, x.told(0, 6));
        due("road(1)", true, x.road(1));
        due("race of 1 kilometre", 2, x.race(1));
        due("to the metre", 120, x.told(0, 1));
    }

    private static void risesAndWinds() {
        BunchRace x = lone(60, 0, 0, 4);
        x.road(2);
        int[][] refused = {{-1, 0, 0}, {2, 0, 0}, {0, -6, 0}, {0, 11, 0}, {0, 0, -4}, {0, 0, 10}};
        for (int[] r : refused) {
            due("rise refused", false, x.rise(r[0], r[1], r[2]));
        }
        x.race(1);
        due("as it was", 5 * 42, x.told(0, 7));
        due("wind 9", true, x.rise(0, 0, 9));
        x.race(1);
        due("42 times 136 by 100 in three minutes, 42 in two", 3 * 57 + 2 * 42, x.told(0, 7));
        due("wind -3", true, x.rise(0, 0, -3));
        x.race(1);
        due("42 times 88 by 100 in three minutes, 42 in two", 3 * 36 + 2 * 42, x.told(0, 7));
        BunchRace y = new BunchRace();
        for (int i = 0; i < 5; i++) {
            y.rider(0, 60, 0, 0);
        }
        y.rise(0, 0, 9);
        y.race(1);
        int[] shares = {136, 98, 88, 84, 83};
        for (int i = 0; i < 5; i++) {
            due("share of place " + (i + 1), 3 * (42 * shares[i] / 100), y.told(i, 7));
        }
        y.rise(0, 0, -3);
        y.race(1);
        int[] tail = {88, 74, 64, 60, 59};
        for (int i = 0; i < 5; i++) {
            due("share with wind behind, place " + (i + 1), 3 * (42 * tail[i] / 100), y.told(i, 7));
        }
    }

    private static void slopesAndClimbs() {
        int[][] cases = {
            // rise, climb, pace, power, metres
            {10, 0, 2, 56, 230}, {10, 50, 2, 41, 230}, {10, 33, 0, 31, 150}, {1, 33, 2, 29, 365}, {1, 34, 2, 28, 365},
            {5, 50, 3, 42, 345}, {0, 50, 4, 42, 460}, {-1, 50, 4, 39, 475}, {-5, 50, 4, 27, 535}, {-5, 0, 0, 0, 375},
            {-4, 50, 0, 0, 360}, {-3, 0, 0, 1, 345},
        };
        for (int[] c : cases) {
            BunchRace x = lone(60, 0, c[1], c[2]);
            x.rise(0, c[0], 0);
            int minutes = x.race(1);
            String what = "rise " + c[0] + " climb " + c[1] + " pace " + c[2];
            due(what + " power", (long) minutes * c[3], x.told(0, 7));
            due(what + " metres", c[4], x.metres(0, 1));
        }
        BunchRace y = lone(60, 0, 0, 5);
        y.road(2);
        y.rise(1, 10, 0);
        y.race(1);
        due("at metre 1000 it is in the next kilometre", 1000, y.metres(0, 2));
        due("slower then", 1230, y.metres(0, 3));
    }

    private static void primes() {
        BunchRace x = new BunchRace();
        due("prime(0)", NONE, x.prime(0));
        due("prime(1000)", NONE, x.prime(1000));
        due("prime(-1)", NONE, x.prime(-1));
        due("prime(1)", 0, x.prime(1));
        due("prime(999)", 1, x.prime(999));
        due("alike", 2, x.prime(999));
        due("prime", 3, x.prime(500));
        due("prime", 4, x.prime(2));
        due("a sixth", NONE, x.prime(3));
        due("five", 5, x.count(2));
        x.road(30);
        due("prime(29999)", 0, x.prime(29999));
        due("prime(30000)", NONE, x.prime(30000));
    }

    private static void primesInRaces() {
        BunchRace x = new BunchRace();
        for (int i = 0; i < 4; i++) {
            x.rider(i, 60, 2000, 0);
            order(x, i, "n>0:" + (i + 3));
        }
        x.road(2);
        // 420, 460, 500 and 540 metres a minute.
        x.prime(540);
        x.prime(1);
        x.prime(1999);
        x.race(1);
        due("first comes at 60 seconds", 3, x.passed(0, 1));
        due("second", 2, x.passed(0, 2));
        due("third", 1, x.passed(0, 3));
        due("all alike in the first second: lower numbers", 0, x.passed(1, 1));
        due("second", 1, x.passed(1, 2));
        due("third", 2, x.passed(1, 3));
        due("points of 3", 3 + 3, x.told(3, 5));
        due("points of 2", 2 + 1 + 2, x.told(2, 5));
        due("points of 1", 1 + 2 + 1, x.told(1, 5));
        due("points of 0", 3, x.told(0, 5));
        due("seconds are whole", 223, x.told(3, 1));
        due("passed(3, 1)", NONE, x.passed(3, 1));
        due("passed(-1, 1)", NONE, x.passed(-1, 1));
        due("passed(0, 0)", NONE, x.passed(0, 0));
        due("passed(0, 4)", NONE, x.passed(0, 4));
        x.prime(7);
        due("a prime that the race had not", NONE, x.passed(3, 1));
        x.road(1);
        due("the race had that prime", 3, x.passed(0, 1));
        x.race(1);
        due("this one has none", NONE, x.passed(0, 1));
        BunchRace y = new BunchRace();
        due("ahead of any", NONE, y.passed(0, 1));
        y.rider(0, 60, 0, 0);
        y.prime(460);
        y.race(1);
        due("come to is passed", 0, y.passed(0, 1));
        due("nobody", NONE, y.passed(0, 2));
    }

    private static void crashes() {
        BunchRace x = lone(60, 0, 0, 5);
        due("crash(0, 5)", false, x.crash(0, 5));
        due("crash(1000, 5)", false, x.crash(1000, 5));
        due("crash(500, -1)", false, x.crash(500, -1));
        due("crash(500, 101)", false, x.crash(500, 101));
        due("no crash", 2, x.race(1));
        due("crash(999, 100)", true, x.crash(999, 100));
        x.prime(999);
        x.race(1);
        due("held ahead of the end", 6, x.count(7));
        due("not in in its second minute", 999, x.metres(0, 2));
        due("held three minutes", 999, x.metres(0, 5));
        due("in", 1000, x.metres(0, 6));
        due("seconds", 5 * 60 + 1, x.told(0, 1));
        due("once", 1, x.told(0, 6));
        due("work of three minutes alone", 3 * 50, x.told(0, 7));
        due("the prime at the crash", 0, x.passed(0, 1));
        due("crash at 500", true, x.crash(500, 100));
        x.race(1);
        due("come to is passed", 1, x.told(0, 6));
        due("stands there", 500, x.metres(0, 4));
        due("goes on", 1000, x.metres(0, 5));
        due("five minutes", 5, x.count(7));
        due("crash(500, 0)", true, x.crash(500, 0));
        due("no lot is below 0", 2, x.race(1));
        due("crash told anew", true, x.crash(1, 100));
        x.race(1);
        due("at metre 1", 1, x.metres(0, 1));
        // A prime beyond the crash, in the same minute, is passed later.
        BunchRace y = new BunchRace();
        y.rider(0, 60, 2000, 0);
        y.rider(1, 60, 2000, 0);
        order(y, 0, "n>0:9");
        order(y, 1, "n>0:0");
        y.road(2);
        y.crash(600, 100);
        y.prime(650);
        y.prime(600);
        y.prime(599);
        y.race(1);
        due("660 a minute passes 600", 0, y.passed(1, 1));
        due("599 too", 0, y.passed(2, 1));
        // Rider 0 passes 650 in minute 4 (from 600), rider 1 comes to 600 in minute 1 and passes 650 in minute 5.
        due("650", 0, y.passed(0, 1));
        due("650", 1, y.passed(0, 2));
        due("both were held", 1, y.told(1, 6));
        due("stands", 600, y.metres(1, 5));
        due("goes on", 900, y.metres(1, 6));
    }

    private static void feeding() {
        BunchRace x = new BunchRace();
        due("feed of zeros", 0, x.feed(0, 0, 0, 0, 0));
        due("zeros are left out", 3, x.feed(0x73000000, 0x00003c00, 0, 0, 0x00000031));
        due("too early", 3, x.fault());
        due("and on", 5, x.feed(0x3a000000, 0, 0x35, 0, 0));
        due("s<1:5", NONE, x.fault());
        due("end", true, x.end(0));
        int blanks = 0x20202020;
        for (int i = 1; i <= 5; i++) {
            due("twenty more", 20 * i, x.feed(blanks, blanks, blanks, blanks, blanks));
        }
        due("one too many", NONE, x.feed(0, 0, 0x20000000, 0, 0));
        due("none more", 100, x.feed(0, 0, 0, 0, 0));
        due("refused changes nothing", 100, x.count(5));
        x.end(81);
        due("101", NONE, x.feed(blanks, blanks, blanks, blanks, blanks));
        due("still 81", 81, x.count(5));
        due("100", 100, x.feed(blanks, blanks, blanks, blanks, 0x20202000));
        x.end(0);
        due("high bytes", 4, x.feed(0xffffffff, 0, 0, 0, 0));
        due("no such", 0, x.fault());
        x.end(0);
        due("the highest first", 5, x.feed(0x6e3e303a, 0x39000000, 0, 0, 0));
        due("n>0:9", NONE, x.fault());
    }

    private static void ending() {
        BunchRace x = new BunchRace();
        due("end(0) of none", true, x.end(0));
        due("end(1) of none", false, x.end(1));
        type(x, "n>0:9;");
        due("end(-1)", false, x.end(-1));
        due("end(7)", false, x.end(7));
        due("end(6)", true, x.end(6));
        due("six", 6, x.count(5));
        due("end(5)", true, x.end(5));
        due("n>0:9", NONE, x.fault());
        due("end(6) again", false, x.end(6));
    }

    private static void fault(String text, int want) {
        BunchRace x = new BunchRace();
        type(x, text);
        due("fault of '" + text + "'", want, x.fault());
        due("the tape stays", text.length(), x.count(5));
        due("orders of '" + text + "'", want == NONE, x.orders(3));
        due("the tape then", want == NONE ? 0 : text.length(), x.count(5));
        type(x, text);
        due("choice of '" + text + "'", want == NONE ? 0 : NONE, x.choice());
        due("the tape then", want == NONE ? 0 : text.length(), x.count(5));
    }

    private static void faults() {
        String[] good = {
            "", " ", "    ", "s=1:0", "k<12:9", "g>123:5", "n=000:1", "p=1:4", " s = 1 : 4 ", "s=1:4;k=2:3",
            "  s=1:4  ;  k  =  002  :  3  ", "s=1:4;s=1:4;s=1:4;s=1:4;s=1:4;s=1:4;s=1:4;s=1:4;s=1:4;s=1:4;s=1:4",
        };
        for (String text : good) {
            fault(text, NONE);
        }
        Object[][] bad = {
            {";", 0}, {" ;", 1}, {"x", 0}, {"S", 0}, {"s", 1}, {"s ", 2}, {"s!", 1}, {"s=", 2}, {"s= ", 3}, {"s=:", 2},
            {"s=a", 2}, {"s=-1", 2}, {"s=1", 3}, {"s=1 ", 4}, {"s=12", 4}, {"s=123", 5}, {"s=1234:5", 5}, {"s=1 2:5", 4},
            {"s=12 3:5", 5}, {"s=1;", 3}, {"s=1:", 4}, {"s=1: ", 5}, {"s=1:a", 4}, {"s=1:;", 4}, {"s=1:12", 5},
            {"s=1:1 2", 6}, {"s=1:1s", 5}, {"s=1:1;", 6}, {"s=1:1; ", 7}, {"s=1:1;;", 6}, {"s=1:1;k", 7}, {"s==1:1", 2},
            {"s=1::1", 4}, {"ss=1:1", 1}, {"s=1:1:", 5}, {"\t", 0}, {"s=1:1\n", 5}, {"s=1:/", 4}, {"s=1::", 4},
            {"s=/", 2}, {"\u00f3=1:1", 0}, {"s=1:1\u00a0", 5}, {"s=1:1,k=1:1", 5}, {"0", 0}, {":", 0},
        };
        for (Object[] row : bad) {
            fault((String) row[0], (Integer) row[1]);
        }
        String full = "s=1:4";
        for (int i = 1; i < 16; i++) {
            full = full + ";s=1:4";
        }
        fault(full, NONE);
        fault(full + ";", 96);
        fault(full + ";k<0:", 100);
    }

    private static void ordersTaken() {
        BunchRace x = lone(60, 2000, 0, 4);
        type(x, "n>0:6");
        due("orders(-1)", false, x.orders(-1));
        due("orders(5)", false, x.orders(5));
        due("the tape stays", 5, x.count(5));
        due("orders(0)", true, x.orders(0));
        due("the tape is empty", 0, x.count(5));
        x.race(1);
        due("pace 6", 540, x.metres(0, 1));
        due("no clauses", true, x.orders(0));
        x.race(1);
        due("pace 4 without", 460, x.metres(0, 1));
        order(x, 0, "n>1:6; n=1:2; n>0:9");
        x.race(1);
        due("the first that holds", 380, x.metres(0, 1));
        order(x, 1, "n>0:9");
        x.race(1);
        due("another team's", 380, x.metres(0, 1));
        type(x, "n>0:9x");
        due("a fault", false, x.orders(0));
        x.race(1);
        due("refused changes nothing", 380, x.metres(0, 1));
        String late = "n=0:9";
        for (int i = 1; i < 15; i++) {
            late = late + ";n=0:9";
        }
        order(x, 0, late + ";n=1:0");
        x.race(1);
        due("the sixteenth clause", 300, x.metres(0, 1));
    }

    private static void clausesAsk() {
        BunchRace x = new BunchRace();
        // In one group: n and p.
        for (int i = 0; i < 3; i++) {
            x.rider(0, 60, 2000, 0);
        }
        x.road(3);
        order(x, 0, "p=1:1;p=2:3;n=3:8");
        x.race(1);
        due("first", 340, x.metres(0, 1));
        due("second", 420, x.metres(1, 1));
        due("third", 620, x.metres(2, 1));
        // Alone then, and places are by metres.
        due("each alone: place 1", 680, x.metres(0, 2));
        due("each alone: place 1", 760, x.metres(1, 2));
        due("each alone: place 1", 960, x.metres(2, 2));
        order(x, 0, "n<3:0;n>2:7");
        x.race(1);
        due("n>2", 580, x.metres(0, 1));
        // k: whole kilometres to the end.
        BunchRace y = lone(60, 2000, 0, 4);
        y.road(3);
        order(y, 0, "k=3:5;k=2:6;k<2:0");
        y.race(1);
        due("k is 3", 500, y.metres(0, 1));
        due("k is 2", 1040, y.metres(0, 2));
        due("k is 1", 1340, y.metres(0, 3));
        order(y, 0, "k>2:5;k=2:5;k=1:1");
        y.race(1);
        due("k is 2 at metre 1000", 1500, y.metres(0, 3));
        // s: hundredths of the store, cut.
        BunchRace z = lone(1, 300, 0, 4);
        z.road(9);
        order(z, 0, "s=100:9;s>72:0;s=72:1;s>68:2");
        z.race(1);
        // 300 less 81 is 219: 73 hundredths; less 9: 210, 70 hundredths; less 25: 185, 61 hundredths.
        due("s is 100", 660, z.metres(0, 1));
        due("s is 73", 960, z.metres(0, 2));
        due("s is 70", 1340, z.metres(0, 3));
        due("none holds", 1800, z.metres(0, 4));
        BunchRace w = lone(60, 0, 0, 4);
        order(w, 0, "s=0:6;s<999:1");
        w.race(1);
        due("s is 0 with a full store of 0", 540, w.metres(0, 1));
    }

    private static void gapsAndHeldOnes() {
        BunchRace x = new BunchRace();
        x.rider(0, 60, 2000, 0);
        x.rider(1, 60, 2000, 0);
        x.road(3);
        order(x, 0, "n>0:9");
        // 660 and 300: 360 behind, 36 tens.
        order(x, 1, "g=0:0;g=36:1;g>36:2;g<36:3");
        x.race(1);
        due("together", 300, x.metres(1, 1));
        due("36", 640, x.metres(1, 2));
        // 1320 and 640: 68 tens.
        due("68", 1020, x.metres(1, 3));
        // The held one is the foremost, but in no group.
        x.crash(1300, 100);
        order(x, 1, "g=70:1;n>0:0");
        x.race(1);
        due("held", 1300, x.metres(0, 2));
        due("600 then", 600, x.metres(1, 2));
        due("70 behind the one held", 940, x.metres(1, 3));
        x.crash(310, 100);
        order(x, 1, "p=2:0;n=1:1;n>0:9");
        x.race(1);
        due("held", 310, x.metres(0, 1));
        due("10 behind the one held", 300, x.metres(1, 1));
        due("held too", 310, x.metres(1, 2));
        // Rider 0 goes on in its fifth minute, rider 1 (held one minute later) in its sixth, alone each.
        due("goes on", 970, x.metres(0, 5));
        due("alone", 650, x.metres(1, 6));
        BunchRace y = new BunchRace();
        y.rider(0, 60, 2000, 0);
        y.rider(1, 60, 2000, 0);
        y.road(1);
        order(y, 0, "n>0:9");
        order(y, 1, "g>0:1;n>0:0");
        y.race(1);
        // Rider 0 is in after two minutes; then the foremost that is not in is rider 1 itself.
        due("660 and 300", 300, y.metres(1, 1));
        due("behind", 640, y.metres(1, 2));
        due("the foremost now", 940, y.metres(1, 3));
        // Orders of those behind go by how all stood as the minute began.
        BunchRace z = new BunchRace();
        z.rider(0, 60, 2000, 0);
        z.rider(1, 60, 2000, 0);
        order(z, 0, "n>0:9");
        order(z, 1, "g>0:9;n=1:8;n=2:2");
        z.race(1);
        due("n is 2 and g 0 as it began", 380, z.metres(1, 1));
        due("then behind", 1000, z.metres(1, 2));
    }

    private static void storesEmptyAndFill() {
        // Power 82 with steady 40: 42 a minute out of 100, then what can be.
        BunchRace x = lone(40, 100, 0, 9);
        x.road(30);
        x.race(1);
        due("pace 9", 660, x.metres(0, 1));
        due("pace 9", 1320, x.metres(0, 2));
        // 16 left: 56 at most, pace 5 (50) leaves 6; then 46 at most, pace 4 (42) leaves 4; 2; 0; then pace 3 gives 6.
        due("pace 5", 1820, x.metres(0, 3));
        due("pace 4", 2280, x.metres(0, 4));
        due("pace 4", 2740, x.metres(0, 5));
        due("pace 4", 3200, x.metres(0, 6));
        due("pace 3", 3620, x.metres(0, 7));
        // 6 then: pace 4 thrice.
        due("pace 4", 5000, x.metres(0, 10));
        // With 0 too little: the store is 0, and it goes with pace 0.
        BunchRace y = lone(1, 5, 0, 9);
        y.race(1);
        due("pace 0", 300, y.metres(0, 1));
        due("minutes", 4, y.count(7));
        due("empty", 0, y.told(0, 4));
        due("work is its power all the same", 40, y.told(0, 7));
        BunchRace z = lone(60, 20, 0, 0);
        z.race(1);
        due("full at most", 20, z.told(0, 4));
        BunchRace w = lone(60, 0, 0, 9);
        w.race(1);
        due("steady alone", 540, w.metres(0, 1));
    }

    private static void choices() {
        BunchRace x = new BunchRace();
        type(x, "n>0:9;");
        due("a fault", NONE, x.choice());
        due("the tape stays", 6, x.count(5));
        choose(x, 0, "n>0:9");
        due("the tape is empty", 0, x.count(5));
        due("none at all are orders too", 1, x.choice());
        choose(x, 2, "  ");
        choose(x, 3, "k<3:1");
        type(x, "n>0:9");
        due("a fifth", NONE, x.choice());
        due("the tape stays", 5, x.count(5));
        due("four", 4, x.count(4));
    }

    private static void races() {
        BunchRace x = new BunchRace();
        due("no riders", NONE, x.race(1));
        due("no race", NONE, x.count(7));
        x.rider(0, 1, 0, 0);
        x.road(30);
        for (int i = 0; i < 30; i++) {
            x.rise(i, 10, 9);
        }
        due("150 metres a minute", 200, x.race(1));
        x.crash(29999, 100);
        due("and held", 204, x.race(1));
        due("minutes", 204, x.count(7));
        due("in", 1, x.told(0, 0));
        // A gap of 20 is no gap: 40 metres a pace, two riders by rises.
        BunchRace y = new BunchRace();
        y.rider(0, 60, 2000, 0);
        y.rider(1, 60, 2000, 0);
        y.road(2);
        y.rise(1, 2, 0);
        order(y, 0, "k=2:5;k=1:5;n>0:2");
        order(y, 1, "k=2:5;k=1:5;n>0:2");
        due("alike", 5, y.race(1));
        due("1000", 1000, y.metres(0, 2));
        due("by metres", 1470, y.metres(1, 3));
    }

    private static void toldOnes() {
        BunchRace x = new BunchRace();
        x.rider(0, 60, 2000, 0);
        due("ahead of any", NONE, x.told(0, 0));
        order(x, 0, "n>0:7");
        x.race(1);
        // 66 a minute, twice: 12 of the store.
        int[] want = {1, 104, 1, 1000, 1988, 0, 0, 132};
        for (int i = 0; i < want.length; i++) {
            due("told(0, " + i + ")", want[i], x.told(0, i));
        }
        due("told(0, 8)", NONE, x.told(0, 8));
        due("told(0, -1)", NONE, x.told(0, -1));
        due("told(1, 0)", NONE, x.told(1, 0));
        due("told(-1, 0)", NONE, x.told(-1, 0));
        due("told(20, 0)", NONE, x.told(20, 0));
        due("told(big, 0)", NONE, x.told(Integer.MAX_VALUE, 0));
        due("a late rider", 1, x.rider(0, 30, 100, 0));
        due("did not ride", NONE, x.told(1, 0));
        x.road(5);
        due("those of its road", 1000, x.told(0, 3));
        x.race(1);
        due("of the latest", 5000, x.told(0, 3));
        due("rode", 1, x.told(1, 0));
    }

    private static void places() {
        BunchRace x = new BunchRace();
        due("ahead of any", NONE, x.at(1));
        for (int i = 0; i < 4; i++) {
            x.rider(i, 60, 2000, 0);
        }
        order(x, 0, "n>0:4");
        order(x, 1, "n>0:6");
        order(x, 2, "n>0:4");
        order(x, 3, "n>0:9");
        x.race(1);
        int[] want = {NONE, 3, 1, 0, 2, NONE};
        for (int i = 0; i < want.length; i++) {
            due("at(" + i + ")", want[i], x.at(i));
            if (want[i] != NONE) {
                due("place of " + want[i], i, x.told(want[i], 2));
            }
        }
        due("at(-1)", NONE, x.at(-1));
        due("at(20)", NONE, x.at(20));
        due("at(21)", NONE, x.at(21));
        BunchRace y = new BunchRace();
        for (int i = 0; i < 20; i++) {
            y.rider(0, 60, 2000, 0);
        }
        y.race(1);
        due("the twentieth", 19, y.at(20));
    }

    private static void metresByMinute() {
        BunchRace x = new BunchRace();
        x.rider(0, 60, 2000, 0);
        x.rider(1, 60, 2000, 0);
        due("ahead of any", NONE, x.metres(0, 0));
        order(x, 0, "n>0:9");
        order(x, 1, "n>0:0");
        x.race(1);
        int[] fast = {0, 660, 1000, 1000, 1000, NONE};
        int[] slow = {0, 300, 600, 900, 1000, NONE};
        for (int i = 0; i < fast.length; i++) {
            due("fast at " + i, fast[i], x.metres(0, i));
            due("slow at " + i, slow[i], x.metres(1, i));
        }
        due("minute -1", NONE, x.metres(0, -1));
        due("rider 2", NONE, x.metres(2, 0));
        due("rider -1", NONE, x.metres(-1, 0));
        due("minute 400", NONE, x.metres(0, 400));
        due("minute 401", NONE, x.metres(0, 401));
        due("a late rider", 2, x.rider(0, 30, 100, 0));
        due("did not ride", NONE, x.metres(2, 0));
        x.road(30);
        x.race(1);
        due("a longer race", 30000, x.metres(1, 100));
        x.road(1);
        x.race(1);
        due("a shorter one then", NONE, x.metres(1, 5));
    }

    private static void groupsByMinute() {
        BunchRace x = new BunchRace();
        due("ahead of any", NONE, x.groups(0));
        for (int i = 0; i < 3; i++) {
            x.rider(i, 60, 2000, 0);
        }
        x.road(3);
        order(x, 0, "n>0:4");
        order(x, 1, "n>0:5");
        order(x, 2, "n>0:4");
        x.race(1);
        due("at first", 1, x.groups(0));
        due("40 apart", 2, x.groups(1));
        due("80 apart", 2, x.groups(2));
        due("rider 1 is in", 1, x.groups(6));
        due("all in", 0, x.groups(7));
        due("behind the last", NONE, x.groups(8));
        due("groups(-1)", NONE, x.groups(-1));
        due("groups(401)", NONE, x.groups(401));
        chainOfRiders();
        BunchRace z = new BunchRace();
        z.rider(0, 60, 2000, 0);
        z.rider(1, 60, 2000, 0);
        z.road(3);
        z.rise(1, 1, 0);
        order(z, 0, "k=2:5;n>0:5");
        order(z, 1, "n=2:4;n>0:6");
        z.race(1);
        due("500 and 460", 2, z.groups(1));
        due("1000 and 1000", 1, z.groups(2));
    }

    /** 1910, 1890 and 1875 metres behind the sixth minute: each is near enough to the one ahead. */
    private static void chainOfRiders() {
        BunchRace x = new BunchRace();
        for (int i = 0; i < 3; i++) {
            x.rider(i, 60, 2000, 0);
        }
        x.road(6);
        x.rise(1, 1, 0);
        x.crash(1910, 100);
        order(x, 0, "n=3:9;k>3:9;n>0:0");
        order(x, 1, "g=71:3;n>0:0");
        order(x, 2, "k>4:1;n>0:0");
        x.race(1);
        due("rider 0", 1910, x.metres(0, 6));
        due("rider 1", 1890, x.metres(1, 6));
        due("rider 2", 1875, x.metres(2, 6));
        due("one group", 1, x.groups(6));
        due("40 metres apart in the first minute", 3, x.groups(1));
        due("1605 and 1590, and one held", 1, x.groups(5));
    }

    private static BunchRace three() {
        BunchRace x = new BunchRace();
        for (int i = 0; i < 3; i++) {
            x.rider(i, 60, 2000, 0);
        }
        // 112, 120 and 131 seconds a kilometre.
        order(x, 0, "n>0:6");
        order(x, 1, "n>0:5");
        order(x, 2, "n>0:4");
        return x;
    }

    private static void keeping() {
        BunchRace x = three();
        due("there is none", NONE, x.keep());
        x.race(1);
        due("the first", 0, x.keep());
        due("it was kept", NONE, x.keep());
        due("one", 1, x.count(3));
        x.race(1);
        due("the second", 1, x.keep());
        due("totals", 224, x.sum(0, 0));
        due("points", 20, x.sum(0, 1));
        due("points", 12, x.sum(1, 1));
        due("points", 8, x.sum(2, 1));
        for (int i = 2; i < 20; i++) {
            x.race(i);
            due("stage " + i, i, x.keep());
        }
        x.race(1);
        due("20 were", NONE, x.keep());
        due("twenty", 20, x.count(3));
        due("totals of twenty", 20 * 112, x.sum(0, 0));
        BunchRace y = three();
        y.prime(460);
        y.race(1);
        y.road(2);
        y.keep();
        due("as the race was: 112 less 3", 109, y.sum(0, 0));
        due("120 less 2", 118, y.sum(1, 0));
        due("131 less 1", 130, y.sum(2, 0));
        due("points of both", 13, y.sum(0, 1));
        due("points of both", 8, y.sum(1, 1));
        due("points of both", 5, y.sum(2, 1));
    }

    private static void keepingLateRiders() {
        BunchRace x = three();
        x.race(1);
        due("a late rider", 3, x.rider(0, 60, 2000, 0));
        due("not out yet", 0, x.sum(3, 2));
        x.keep();
        due("not in, so out", 1, x.sum(3, 2));
        due("no total", 0, x.sum(3, 0));
        due("one is out", 1, x.count(6));
        x.race(1);
        due("rides no more", NONE, x.told(3, 0));
    }

    /** Over 7 kilometres: 1000 and 1400 seconds. */
    private static BunchRace far() {
        BunchRace x = new BunchRace();
        x.rider(0, 60, 2000, 0);
        x.rider(1, 60, 2000, 0);
        order(x, 0, "n>0:3");
        order(x, 1, "n>0:0");
        x.road(7);
        return x;
    }

    private static void limits() {
        BunchRace x = far();
        due("limit(0)", false, x.limit(0));
        due("limit(101)", false, x.limit(101));
        due("limit(-1)", false, x.limit(-1));
        due("limit(1)", true, x.limit(1));
        due("limit(100)", true, x.limit(100));
        due("limit(40)", true, x.limit(40));
        due("limit(101)", false, x.limit(101));
        x.race(1);
        due("1000", 1000, x.told(0, 1));
        due("1400", 1400, x.told(1, 1));
        x.keep();
        due("no more than 140 hundredths", 0, x.sum(1, 2));
        BunchRace y = far();
        y.limit(39);
        y.race(1);
        y.keep();
        due("more than 139 hundredths", 1, y.sum(1, 2));
        due("its total all the same", 1400, y.sum(1, 0));
        due("its points all the same", 6, y.sum(1, 1));
        due("it does not stand", 0, y.sum(1, 3));
        due("one is out", 1, y.count(6));
        y.race(1);
        due("out ones ride no more", NONE, y.told(1, 0));
        due("nor have metres", NONE, y.metres(1, 0));
        due("nor places", NONE, y.at(2));
        y.limit(100);
        y.keep();
        due("out for good", 1, y.sum(1, 2));
        due("its total stays", 1400, y.sum(1, 0));
        // 158 and 131 seconds, 143 and 120 seconds.
        firstLimit(4, 2, 1);
        firstLimit(5, 3, 0);
        // The limit goes by the seconds themselves, not by those less seconds off.
        BunchRace w = far();
        w.prime(6999);
        w.limit(40);
        w.race(1);
        w.keep();
        due("totals", 997, w.sum(0, 0));
        due("totals", 1398, w.sum(1, 0));
        due("not out", 0, w.sum(1, 2));
    }

    /** A second rider that the first limit of 20 hundredths lets through, or not. */
    private static void firstLimit(int fast, int slow, int out) {
        BunchRace x = new BunchRace();
        x.rider(0, 60, 2000, 0);
        x.rider(1, 60, 2000, 0);
        order(x, 0, "n>0:" + slow);
        order(x, 1, "n>0:" + fast);
        x.race(1);
        x.keep();
        due("at first, pace " + slow + " behind pace " + fast, out, x.sum(0, 2));
        due("those out", out, x.count(6));
    }

    private static void sums() {
        BunchRace x = three();
        due("total", 0, x.sum(0, 0));
        due("points", 0, x.sum(0, 1));
        due("out", 0, x.sum(0, 2));
        due("stands by number", 1, x.sum(0, 3));
        due("stands by number", 3, x.sum(2, 3));
        due("sum(3, 0)", NONE, x.sum(3, 0));
        due("sum(-1, 0)", NONE, x.sum(-1, 0));
        due("sum(20, 0)", NONE, x.sum(20, 0));
        due("sum(0, 4)", NONE, x.sum(0, 4));
        due("sum(0, -1)", NONE, x.sum(0, -1));
        x.race(1);
        due("not kept", 0, x.sum(0, 0));
    }

    private static void standings() {
        BunchRace x = new BunchRace();
        for (int i = 0; i < 4; i++) {
            x.rider(i, 60, 2000, 0);
        }
        order(x, 0, "n>0:4");
        order(x, 1, "n>0:6");
        order(x, 2, "n>0:4");
        order(x, 3, "n>0:5");
        x.race(1);
        x.keep();
        int[] want = {3, 1, 4, 2};
        for (int i = 0; i < 4; i++) {
            due("standing of " + i, want[i], x.sum(i, 3));
        }
        due("10", 10, x.sum(1, 1));
        due("6", 6, x.sum(3, 1));
        due("4", 4, x.sum(0, 1));
        due("0", 0, x.sum(2, 1));
        // Totals alike: more points stand ahead. The winner of one day is the last of the other.
        BunchRace y = three();
        y.race(1);
        y.keep();
        order(y, 0, "n>0:4");
        order(y, 2, "n>0:6");
        y.race(1);
        y.keep();
        due("alike", 243, y.sum(0, 0));
        due("alike", 243, y.sum(2, 0));
        due("240", 240, y.sum(1, 0));
        due("points", 14, y.sum(0, 1));
        due("points", 14, y.sum(2, 1));
        due("lower number", 2, y.sum(0, 3));
        due("higher number", 3, y.sum(2, 3));
        due("the lowest total", 1, y.sum(1, 3));
    }

    private static void teams() {
        BunchRace x = new BunchRace();
        for (int i = 0; i < 4; i++) {
            x.rider(2, 60, 2000, 0);
        }
        x.rider(1, 60, 2000, 0);
        x.rider(1, 60, 2000, 0);
        due("nothing yet", 0, x.team(2));
        due("two alone", NONE, x.team(1));
        due("none", NONE, x.team(0));
        due("team(-1)", NONE, x.team(-1));
        due("team(5)", NONE, x.team(5));
        order(x, 2, "p=1:6;p=2:7;p=3:8;p=4:9");
        x.race(1);
        x.keep();
        // 112, 107, 103 and 98 seconds.
        due("the three lowest", 107 + 103 + 98, x.team(2));
        due("those of team 1 are out", NONE, x.team(1));
        // Three, of whom one is out.
        BunchRace y = new BunchRace();
        for (int i = 0; i < 3; i++) {
            y.rider(0, 60, 2000, 0);
        }
        order(y, 0, "p=3:0;k<1:0;n>0:9");
        y.limit(1);
        y.race(1);
        due("three", 0, y.team(0));
        y.keep();
        due("one is out", 1, y.count(6));
        due("fewer than three", NONE, y.team(0));
    }

    private static void attempts() {
        BunchRace x = three();
        due("no choices", NONE, x.attempt(0, 500, 0, 0, 1));
        choose(x, 0, "n>0:4");
        choose(x, 1, "n>0:9");
        due("attempt(-1, ..)", NONE, x.attempt(-1, 500, 0, 0, 1));
        due("attempt(5, ..)", NONE, x.attempt(5, 500, 0, 0, 1));
        due("metre 0", NONE, x.attempt(0, 0, 0, 0, 1));
        due("metre 1000", NONE, x.attempt(0, 1000, 0, 0, 1));
        due("metre -5", NONE, x.attempt(0, -5, 0, 0, 1));
        due("choice -1", NONE, x.attempt(0, 500, -1, 0, 1));
        due("choice 2", NONE, x.attempt(0, 500, 2, 0, 1));
        due("choice -1", NONE, x.attempt(0, 500, 0, -1, 1));
        due("choice 2", NONE, x.attempt(0, 500, 0, 2, 1));
        due("131 seconds of rider 0 ahead of 131 of rider 2", 2 + 80, x.attempt(0, 500, 0, 0, 1));
        due("first", 1 + 80, x.attempt(0, 1, 1, 1, 1));
        due("metre 999", 1 + 80, x.attempt(0, 999, 1, 1, 1));
        due("rider 2 behind all", 3 + 80, x.attempt(2, 500, 0, 0, 1));
        due("rider 2 first", 1 + 80, x.attempt(2, 500, 1, 1, 1));
        due("nobody of it", 120, x.attempt(3, 500, 1, 1, 1));
        BunchRace y = new BunchRace();
        choose(y, 0, "");
        due("no riders", NONE, y.attempt(0, 500, 0, 0, 1));
        for (int i = 0; i < 5; i++) {
            y.rider(1, 60, 2000, 0);
        }
        due("the first three", 6, y.attempt(1, 500, 0, 0, 1));
        BunchRace w = new BunchRace();
        choose(w, 0, "");
        due("alone", 0, w.rider(0, 60, 2000, 0));
        due("one rider is enough", 81, w.attempt(0, 500, 0, 0, 1));
        due("one choice is enough", 0, w.best(0, 500, 1));
        for (int i = 1; i < 20; i++) {
            w.rider(i < 17 ? 0 : 1, 60, 2000, 0);
        }
        due("the last three", 18 + 19 + 20, w.attempt(1, 500, 0, 0, 1));
        BunchRace z = far();
        choose(z, 0, "n>0:9");
        due("first", 81, z.attempt(1, 500, 0, 0, 1));
        z.race(1);
        z.keep();
        due("out ones are not tried", 120, z.attempt(1, 500, 0, 0, 1));
        due("of those who ride", 81, z.attempt(0, 500, 0, 0, 1));
    }

    private static void attemptSwitches() {
        BunchRace x = new BunchRace();
        x.rider(0, 60, 2000, 0);
        x.rider(1, 60, 2000, 0);
        // Rider 0 with pace 5 has 120 seconds.
        order(x, 0, "n>0:5");
        choose(x, 0, "n>0:0");
        choose(x, 1, "n>0:9");
        // 300 in the first minute, 960 in the second: too late in both ways, and 900 at 999.
        due("slow then fast", 82, x.attempt(1, 300, 0, 1, 1));
        due("fast then slow: 660 at 60 seconds, 68 more", 82, x.attempt(1, 660, 1, 0, 1));
        due("from metre 661 on only as it is there: fast in the second minute too", 81, x.attempt(1, 661, 1, 0, 1));
        due("fast then fast", 81, x.attempt(1, 300, 1, 1, 1));
        order(x, 1, "n>0:5");
        due("rider 0 alike: fast then slow", 82, x.attempt(0, 660, 1, 0, 1));
        // The foremost of the team changes the orders of all of it.
        BunchRace y = new BunchRace();
        y.rider(0, 60, 2000, 0);
        y.rider(1, 60, 2000, 0);
        y.rider(1, 60, 2000, 0);
        order(y, 0, "n>0:5");
        choose(y, 0, "p=2:9;n>0:0");
        choose(y, 1, "n>0:9");
        choose(y, 2, "p=2:9;s=99:9;n>0:0");
        // 91 and 124 seconds, and 120 of rider 0.
        due("at 660 both go by the second", 1 + 3 + 40, y.attempt(1, 660, 0, 1, 1));
        // 124 and 157 seconds.
        due("at 661 a minute later", 2 + 3 + 40, y.attempt(1, 661, 0, 1, 1));
        // In is at the end: rider 1 is in with 91 seconds, then rider 2 has 157 or 200, and rider 0 has 177.
        order(y, 0, "n>0:1");
        due("one that is in is at the end", 1 + 2 + 40, y.attempt(1, 999, 2, 1, 1));
        due("without a change", 1 + 3 + 40, y.attempt(1, 999, 2, 2, 1));
    }

    private static void bests() {
        BunchRace x = three();
        due("no choices", NONE, x.best(0, 500, 1));
        choose(x, 0, "n>0:0");
        choose(x, 1, "n>0:4");
        choose(x, 2, "n>0:9");
        due("best(-1, ..)", NONE, x.best(-1, 500, 1));
        due("best(5, ..)", NONE, x.best(5, 500, 1));
        due("metre 0", NONE, x.best(0, 0, 1));
        due("metre 1000", NONE, x.best(0, 1000, 1));
        // 660 and then 300, 460 or 660 a minute: 128, 105 or 91 seconds; the winner so far has 112.
        due("the first of two alike pairs", 21, x.best(2, 500, 1));
        due("nobody of it: the first pair", 0, x.best(3, 500, 1));
        due("from metre 999 on nothing changes: the first of fast ones", 20, x.best(2, 999, 1));
        BunchRace y = new BunchRace();
        choose(y, 0, "");
        due("no riders", NONE, y.best(0, 500, 1));
    }

    private static void counts() {
        BunchRace x = three();
        x.road(4);
        x.prime(5);
        x.prime(6);
        choose(x, 0, "");
        type(x, "abc");
        x.race(1);
        x.keep();
        int[] want = {3, 4, 2, 1, 1, 3, 0, x.race(1)};
        for (int i = 0; i < want.length; i++) {
            due("count(" + i + ")", want[i], x.count(i));
        }
        due("count(-1)", NONE, x.count(-1));
        due("count(8)", NONE, x.count(8));
        due("NONE", -1, BunchRace.NONE);
    }
}
