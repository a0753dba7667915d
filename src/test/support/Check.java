import java.math.BigInteger;
import java.nio.charset.StandardCharsets;
import java.util.Arrays;
import java.util.function.IntPredicate;

/** What the tests share: answers against those due, texts on the tape, riders with a pace, lots and their seeds. */
abstract class Check {
    static final int NONE = BunchRace.NONE;
    private static final BigInteger LOT_FACTOR = new BigInteger("6364136223846793005");
    private static final BigInteger LOT_STEP = new BigInteger("1442695040888963407");
    private static final BigInteger ROUND = BigInteger.ONE.shiftLeft(64);

    private static int asked = 0;
    private static int wrong = 0;
    private static String sentence = "";

    /** Runs the test of one sentence of the document; what is wrong in it is told with these words. */
    static void sentence(String words, Runnable test) {
        sentence = "'" + words + "': ";
        test.run();
        sentence = "";
    }

    static void due(String call, long want, long got) {
        asked++;
        if (want != got) {
            wrong++;
            System.out.println(sentence + call + " answered " + got + ", due is " + want);
        }
    }

    static void due(String call, boolean want, boolean got) {
        due(call, want ? 1 : 0, got ? 1 : 0);
    }

    static void finish() {
        System.out.println(asked + " answers asked, " + wrong + " wrong");
        if (wrong != 0) {
            System.exit(1);
        }
    }

    /** The last values that are taken and the first that are refused on each side, and the ends of an int. */
    static void bounds(String call, int least, int most, IntPredicate taken) {
        due(call + " with " + least, true, taken.test(least));
        due(call + " with " + most, true, taken.test(most));
        due(call + " with " + (least - 1), false, taken.test(least - 1));
        due(call + " with " + (most + 1), false, taken.test(most + 1));
        due(call + " with the least int", false, taken.test(Integer.MIN_VALUE));
        due(call + " with the greatest int", false, taken.test(Integer.MAX_VALUE));
    }

    /** Puts a text on the empty tape. */
    static void type(BunchRace x, String text) {
        x.end(0);
        byte[] bytes = text.getBytes(StandardCharsets.ISO_8859_1);
        for (int from = 0; from < bytes.length; from += 20) {
            int[] words = wordsOf(Arrays.copyOfRange(bytes, from, Math.min(from + 20, bytes.length)));
            x.feed(words[0], words[1], words[2], words[3], words[4]);
        }
        due("bytes of '" + text + "'", bytes.length, x.count(5));
    }

    /** Five numbers that feed twenty bytes, the rest of them 0. */
    static int[] wordsOf(byte[] bytes) {
        int[] words = new int[5];
        for (int i = 0; i < 20; i++) {
            int next = i < bytes.length ? bytes[i] & 255 : 0;
            words[i / 4] = words[i / 4] << 8 | next;
        }
        return words;
    }

    static void order(BunchRace x, int team, String text) {
        type(x, text);
        due("orders(" + team + ") of '" + text + "'", true, x.orders(team));
    }

    static void choose(BunchRace x, int number, String text) {
        type(x, text);
        due("choice() of '" + text + "'", number, x.choice());
    }

    /** One rider that always goes with this pace if it can. */
    static BunchRace lone(int steady, int full, int climb, int pace) {
        return loneBy(steady, full, climb, "n>0:" + pace);
    }

    static BunchRace loneBy(int steady, int full, int climb, String text) {
        BunchRace x = new BunchRace();
        due("the first rider", 0, x.rider(0, steady, full, climb));
        order(x, 0, text);
        return x;
    }

    /** A strong rider for each text, each in a team of its own that has these orders. */
    static BunchRace rivals(String... texts) {
        BunchRace x = new BunchRace();
        for (int i = 0; i < texts.length; i++) {
            due("rider " + i, i, x.rider(i, 60, 2000, 0));
            order(x, i, texts[i]);
        }
        return x;
    }

    /** All that an object can hold: 20 riders, 30 kilometres, 5 primes, 4 choices, 20 stages, 100 bytes. */
    static BunchRace filled() {
        BunchRace x = new BunchRace();
        for (int i = 0; i < 20; i++) {
            x.rider(i % 5, 40 + i, 100 * i, 2 * i);
        }
        x.road(30);
        for (int i = 0; i < 30; i += 3) {
            x.rise(i, i % 16 - 5, i % 13 - 3);
        }
        for (int i = 0; i < 5; i++) {
            x.prime(5000 * i + 1234);
            order(x, i, "s<" + 20 * i + ":3;p=1:6;k<2:9;g>9:8");
        }
        x.crash(17000, 40);
        for (int i = 0; i < 4; i++) {
            choose(x, i, "s>" + 25 * i + ":" + (9 - i) + ";n>3:" + (i + 2));
        }
        x.limit(9);
        for (int i = 0; i < 20; i++) {
            due("minutes of stage " + i, true, x.race(1000 + i) > 0);
            due("stage", i, x.keep());
        }
        type(x, "n=7:1;n=7:2;n=7:3;n=7:4;n=7:5;n=7:6;n=7:7;n=7:8;n=7:9;n=7:0;n=7:1;n=7:2;n=7:3;n=7:4;n=7:5;n = 1 : 8 ");
        return x;
    }

    /** The lots of a seed, 0 to 99 each, worked out with numbers that don't go round by themselves. */
    static int[] lots(long seed, int howMany) {
        int[] found = new int[howMany];
        BigInteger x = BigInteger.valueOf(seed).mod(ROUND);
        for (int i = 0; i < howMany; i++) {
            x = x.multiply(LOT_FACTOR).add(LOT_STEP).mod(ROUND);
            found[i] = x.shiftRight(33).mod(BigInteger.valueOf(100)).intValue();
        }
        return found;
    }

    /** A seed whose lots, one after the other, are below the part (held) or not, as told. */
    static long seedFor(int part, boolean... held) {
        for (long seed = 1; seed < 100_000; seed++) {
            int[] lots = lots(seed, held.length);
            boolean fits = true;
            for (int i = 0; i < held.length; i++) {
                fits &= lots[i] < part == held[i];
            }
            if (fits) {
                return seed;
            }
        }
        due("a seed for such lots", true, false);
        return 0;
    }

    /** A seed whose first lot is this one. */
    static long seedOfLot(int lot) {
        for (long seed = 1; seed < 100_000; seed++) {
            if (lots(seed, 1)[0] == lot) {
                return seed;
            }
        }
        due("a seed for lot " + lot, true, false);
        return 0;
    }
}
