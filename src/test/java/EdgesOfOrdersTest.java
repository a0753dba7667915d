import java.nio.charset.StandardCharsets;
import java.util.regex.Matcher;
import java.util.regex.Pattern;

/** The texts of orders: a test for each sentence on ORDERS, the TAPE and the FAULT that names an edge. */
public final class EdgesOfOrdersTest extends Check {
    private static final String CLAUSE = "[skgnp] *[=<>] *[0-9]{1,3} *: *[0-9]";
    private static final Pattern ORDERS = Pattern.compile(" *(?:" + CLAUSE + "(?: *; *" + CLAUSE + ")* *)?");

    public static void main(String[] args) {
        sentence("CLAUSES with ; between (none: no bytes but blanks)", EdgesOfOrdersTest::noneAndSeveral);
        sentence("s (STORE in hundredths of FULL, cut; 0 if FULL is 0)", EdgesOfOrdersTest::storeInHundredths);
        sentence("k (whole kilometres to the end, cut)", EdgesOfOrdersTest::kilometresToTheEnd);
        sentence("g (metres behind the foremost .., by 10, cut)", EdgesOfOrdersTest::gapByTen);
        sentence("the foremost that is not IN, HELD ones too", EdgesOfOrdersTest::foremostHeldOrIn);
        sentence("n (RIDERS of its GROUP)", EdgesOfOrdersTest::ridersOfAGroup);
        sentence("p (its place in its GROUP, 1 the first)", EdgesOfOrdersTest::placeInAGroup);
        sentence("a letter s, k, g, n, p", EdgesOfOrdersTest::letters);
        sentence("one of = < >", EdgesOfOrdersTest::signs);
        sentence("a number (1 to 3 digits)", EdgesOfOrdersTest::numbers);
        sentence("a digit 0 .. 9 (a PACE)", EdgesOfOrdersTest::paces);
        sentence("Blanks (32) stand where they like, but not within numbers", EdgesOfOrdersTest::blanks);
        sentence("FAULT: the first byte at which no such can go on", EdgesOfOrdersTest::firstByteAtFault);
        sentence("(the length, if they end too early)", EdgesOfOrdersTest::endTooEarly);
        sentence("Twenty bytes more come to the TAPE", EdgesOfOrdersTest::twentyBytes);
        sentence("of each number the highest first", EdgesOfOrdersTest::highestFirst);
        sentence("bytes of 0 are left out", EdgesOfOrdersTest::zerosLeftOut);
        sentence("how many it has. NONE: more than 100", EdgesOfOrdersTest::hundredBytes);
        sentence("The TAPE has its first n bytes alone. False: n", EdgesOfOrdersTest::firstBytesAlone);
        sentence("The TAPE (empty then) are the ORDERS of a TEAM", EdgesOfOrdersTest::fullTapeOfOrders);
        finish();
    }

    private static int fault(String text) {
        BunchRace x = new BunchRace();
        type(x, text);
        return x.fault();
    }

    /** By a pattern for whole orders: a text can go on as long as it fits or only its end was missing. */
    private static int faultByPattern(String text) {
        for (int i = 1; i <= text.length(); i++) {
            Matcher matcher = ORDERS.matcher(text.substring(0, i));
            if (!matcher.matches() && !matcher.hitEnd()) {
                return i - 1;
            }
        }
        return ORDERS.matcher(text).matches() ? NONE : text.length();
    }

    private static void sameFault(BunchRace x, String text) {
        x.end(0);
        byte[] bytes = text.getBytes(StandardCharsets.ISO_8859_1);
        int[] words = wordsOf(bytes);
        x.feed(words[0], words[1], words[2], words[3], words[4]);
        due("fault of '" + text + "'", faultByPattern(text), x.fault());
    }

    private static int metresBy(String text) {
        BunchRace x = loneBy(60, 2000, 0, text);
        x.race(1);
        return x.metres(0, 1);
    }

    private static String times(String text, String between, int howOften) {
        StringBuilder all = new StringBuilder(text);
        for (int i = 1; i < howOften; i++) {
            all.append(between).append(text);
        }
        return all.toString();
    }

    private static void noneAndSeveral() {
        due("no bytes", NONE, fault(""));
        due("a blank", NONE, fault(" "));
        due("100 blanks", NONE, fault(times(" ", "", 100)));
        due("; alone", 0, fault(";"));
        due("; ahead", 0, fault(";n>0:1"));
        due("; behind", 6, fault("n>0:1;"));
        due("; twice", 6, fault("n>0:1;;n>0:2"));
        due("no ;", 5, fault("n>0:1n>0:2"));
        due("one", NONE, fault("n>0:1"));
        due("two", NONE, fault("n>0:1;n>0:2"));
        due("sixteen", NONE, fault(times("n>0:1", ";", 16)));
        due("the sixteenth counts", 580, metresBy(times("n>1:1", ";", 15) + ";n=1:7"));
        due("none, told behind others", 460, metresBy("  "));
    }

    private static void storeInHundredths() {
        // 1 of 2,000 is taken in the first minute: 99 hundredths, cut.
        BunchRace x = loneBy(57, 2000, 0, "s=100:6;s=99:1;n>0:0");
        x.race(1);
        due("100 hundredths", 540, x.metres(0, 1));
        due("99 hundredths", 880, x.metres(0, 2));
        BunchRace y = loneBy(60, 0, 0, "s=0:6;n>0:0");
        y.race(1);
        due("full is 0", 540, y.metres(0, 1));
        // 8 of 8 are taken in the first minute: the store is empty.
        BunchRace z = loneBy(58, 8, 0, "s=100:7;s=0:6;n>0:0");
        z.road(2);
        z.race(1);
        due("100 hundredths of 8", 580, z.metres(0, 1));
        due("0 hundredths of 8", 1120, z.metres(0, 2));
        // 1 of 1 is taken, then 7 come, of which 1 has room.
        BunchRace w = loneBy(57, 1, 0, "s=100:6;s=0:5;n>0:0");
        w.road(2);
        w.race(1);
        due("100 hundredths of 1", 540, w.metres(0, 1));
        due("0 hundredths of 1", 1040, w.metres(0, 2));
        due("100 hundredths of 1 again", 1580, w.metres(0, 3));
        due("never above 100", 340, metresBy("s>100:9;s<101:1"));
    }

    /** Held at that metre, then on by what k is there. */
    private static int onFrom(int metre, int minute, String text) {
        BunchRace x = loneBy(60, 2000, 0, text);
        x.road(3);
        x.crash(metre, 100);
        x.race(1);
        due("stands at " + metre, metre, x.metres(0, minute - 1));
        return x.metres(0, minute) - metre;
    }

    private static void kilometresToTheEnd() {
        BunchRace x = loneBy(60, 2000, 0, "k=3:1;n>0:0");
        x.road(3);
        x.race(1);
        due("3 at metre 0", 340, x.metres(0, 1));
        due("2 at metre 1", 340, onFrom(1, 5, "k=2:1;n>0:0"));
        due("2 at metre 1000", 500, onFrom(1000, 6, "k>1:5;n>0:0"));
        due("1 at metre 1001", 300, onFrom(1001, 7, "k>1:5;n>0:0"));
        due("1 at metre 2000", 340, onFrom(2000, 9, "k=1:1;n>0:5"));
        due("0 at metre 2001", 500, onFrom(2001, 9, "k=1:1;n>0:5"));
        BunchRace y = loneBy(60, 2000, 0, "k=30:1;n>0:9");
        y.road(30);
        y.race(1);
        due("30 at metre 0", 340, y.metres(0, 1));
        due("29 then", 1000, y.metres(0, 2));
    }

    /** Rider 0 is held at that metre from the first minute on; rider 1 has 600 metres behind the second. */
    private static int thirdMinuteBehind(int crash) {
        BunchRace x = rivals("n>0:9", "n=2:0;g=0:1;g=1:2;g=2:3;n>0:0");
        x.road(3);
        x.crash(crash, 50);
        x.race(seedFor(50, true, false));
        due("rider 0", crash, x.metres(0, 2));
        due("rider 1", 600, x.metres(1, 2));
        return x.metres(1, 3) - 600;
    }

    private static void gapByTen() {
        due("9 metres are 0", 340, thirdMinuteBehind(609));
        due("10 metres are 1", 380, thirdMinuteBehind(610));
        due("19 metres are 1", 380, thirdMinuteBehind(619));
        due("20 metres are 2", 420, thirdMinuteBehind(620));
        due("the foremost is 0 behind itself", 660, metresBy("g=0:9;n>0:0"));
    }

    private static void foremostHeldOrIn() {
        // Rider 0 is held at 650: 350 metres ahead of rider 1 behind the first minute.
        BunchRace x = rivals("n>0:9", "g=35:1;n>0:0");
        x.road(2);
        x.crash(650, 50);
        x.race(seedFor(50, true, false));
        due("behind one that is held", 640, x.metres(1, 2));
        // Rider 0 is in behind the second minute: then rider 1 is the foremost.
        BunchRace y = rivals("n>0:9", "g>0:1;n>0:0");
        y.race(1);
        due("in", 1000, y.metres(0, 2));
        due("behind one that is not in yet", 640, y.metres(1, 2));
        due("none ahead but one that is in", 940, y.metres(1, 3));
        // How it stood as the minute began: rider 0 is at 1320 as the third begins, rider 1 at 600.
        BunchRace z = rivals("n>0:9", "g=72:1;n>0:0");
        z.road(3);
        z.race(1);
        due("72 tens", 940, z.metres(1, 3));
    }

    private static BunchRace twentyBy(String text) {
        BunchRace x = new BunchRace();
        for (int i = 0; i < 20; i++) {
            x.rider(0, 60, 2000, 0);
        }
        order(x, 0, text);
        x.race(1);
        return x;
    }

    private static void ridersOfAGroup() {
        due("alone", 340, metresBy("n=1:1;n>0:0"));
        BunchRace x = twentyBy("n=20:5;n>0:0");
        due("twenty", 500, x.metres(19, 1));
        due("no more than twenty", 460, twentyBy("n>20:9;n<20:0").metres(0, 1));
        // One goes off alone: nineteen are left.
        BunchRace y = twentyBy("p=1:9;n=20:4;n=19:5;n>0:0");
        due("the one ahead", 660, y.metres(0, 1));
        due("nineteen", 960, y.metres(19, 2));
    }

    private static void placeInAGroup() {
        BunchRace x = twentyBy("p=1:1;p=20:2;n=20:3;n=18:4");
        due("the first", 340, x.metres(0, 1));
        due("the twentieth", 380, x.metres(19, 1));
        due("between", 420, x.metres(1, 1));
        due("between", 420, x.metres(18, 1));
        // 340, 380 and eighteen at 420: each the first of its group, rider 1 of the eighteen.
        due("rider 0", 680, x.metres(0, 2));
        due("rider 19", 720, x.metres(19, 2));
        due("rider 1", 760, x.metres(1, 2));
        due("rider 2", 880, x.metres(2, 2));
        due("no place 0", 460, metresBy("p=0:9;p<1:9"));
        due("no place 21", 460, twentyBy("p>20:9;p=21:9").metres(19, 1));
    }

    private static void letters() {
        for (int letter = 1; letter < 256; letter++) {
            boolean taken = "skgnp ".indexOf(letter) >= 0;
            String text = (char) letter + "=1:4";
            int want = taken ? letter == ' ' ? 1 : NONE : 0;
            due("fault of letter " + letter, want, fault(text));
        }
    }

    private static void signs() {
        Object[][] cases = {
            {"n<1:9", 460}, {"n<2:9", 660}, {"n=0:9", 460}, {"n=1:9", 660}, {"n=2:9", 460}, {"n>1:9", 460}, {"n>0:9", 660},
        };
        for (Object[] c : cases) {
            due("metres by " + c[0], (Integer) c[1], metresBy((String) c[0]));
        }
        for (int sign = 1; sign < 256; sign++) {
            boolean taken = "=<>".indexOf(sign) >= 0;
            String text = "n" + (char) sign + "1:4";
            int want = taken ? NONE : sign == ' ' ? 2 : 1;
            due("fault of sign " + sign, want, fault(text));
        }
    }

    private static void numbers() {
        Object[][] cases = {
            {"n=1:9", 660}, {"n=01:9", 660}, {"n=001:9", 660}, {"n=10:9", 460}, {"n=100:9", 460}, {"n<999:9", 660},
            {"n>999:9", 460}, {"n=000:9", 460}, {"n>000:9", 660}, {"s=100:9", 660}, {"s>99:9", 660}, {"s<100:9", 460},
        };
        for (Object[] c : cases) {
            due("metres by " + c[0], (Integer) c[1], metresBy((String) c[0]));
        }
        due("no digit", 2, fault("n=:9"));
        due("four digits", 5, fault("n=1000:9"));
        due("four digits of 0", 5, fault("n=0000:9"));
        due("a sign of its own", 2, fault("n=-1:9"));
        for (int next = 1; next < 256; next++) {
            int want = next >= '0' && next <= '9' ? NONE : next == ' ' ? 3 : 2;
            due("fault of digit " + next, want, fault("n=" + (char) next + ":4"));
        }
        // A gap of 1,000 tens: greater than every number that can be told.
        BunchRace x = rivals("n>0:9", "g>999:1;n>0:0");
        x.road(30);
        x.race(1);
        // Behind the 28th minute 28 times 660 less 28 times 300 are 10,080 metres.
        due("972 tens", 300, x.metres(1, 28) - x.metres(1, 27));
        due("1,008 tens", 340, x.metres(1, 29) - x.metres(1, 28));
    }

    private static void paces() {
        for (int pace = 0; pace <= 9; pace++) {
            due("metres of pace " + pace, 300 + 40 * pace, metresBy("n>0:" + pace));
        }
        for (int next = 1; next < 256; next++) {
            int want = next >= '0' && next <= '9' ? NONE : next == ' ' ? 5 : 4;
            due("fault of pace " + next, want, fault("n>0:" + (char) next));
        }
        due("two digits", 5, fault("n>0:10"));
        due("two digits with a blank", 6, fault("n>0:1 0"));
    }

    private static void blanks() {
        String text = "s=12:4;k<3:5";
        for (int i = 0; i <= text.length(); i++) {
            String wider = text.substring(0, i) + " " + text.substring(i);
            due("fault of '" + wider + "'", i == 3 ? 4 : NONE, fault(wider));
            int[] others = {1, 9, 10, 13, 31, 33, 95, 160, 255};
            for (int other : others) {
                String spoilt = text.substring(0, i) + (char) other + text.substring(i);
                due("fault with " + other + " at " + i, i, fault(spoilt));
            }
        }
        due("within three digits", 5, fault("s=12 3:4"));
        due("within three digits", 4, fault("s=1 23:4"));
        due("many", NONE, fault("   s   =   12   :   4   ;   k   <   3   :   5   "));
        due("they change nothing", 580, metresBy("  n  >  0  :  7  "));
    }

    /** Every byte put in or put instead at every place, beside a pattern. */
    private static void firstByteAtFault() {
        String[] texts = {"", "k", "s=12:4;k<3:5", " g > 123 : 9 ;", "p=1:0 ", "n<1 ;"};
        for (String text : texts) {
            for (int i = 0; i <= text.length(); i++) {
                BunchRace x = new BunchRace();
                for (int next = 1; next < 256; next += 2) {
                    sameFault(x, text.substring(0, i) + (char) next + text.substring(i));
                }
                BunchRace y = new BunchRace();
                for (int next = 2; next < 256; next += 2) {
                    sameFault(y, text.substring(0, i) + (char) next + text.substring(i));
                }
                if (i < text.length()) {
                    BunchRace z = new BunchRace();
                    for (int next = 32; next < 128; next++) {
                        sameFault(z, text.substring(0, i) + (char) next + text.substring(i + 1));
                    }
                }
            }
        }
        everyShortText();
        due("the 100th byte", 99, fault(times("n>0:1", ";", 16) + "    x"));
        due("the first of two", 1, fault("n!!"));
    }

    /** All texts of these bytes up to six long. */
    private static void everyShortText() {
        String bytes = "s=1:; ";
        BunchRace x = new BunchRace();
        int calls = 0;
        for (int length = 0; length <= 6; length++) {
            int howMany = (int) Math.pow(bytes.length(), length);
            for (int number = 0; number < howMany; number++) {
                StringBuilder text = new StringBuilder();
                for (int i = 0, rest = number; i < length; i++, rest /= bytes.length()) {
                    text.append(bytes.charAt(rest % bytes.length()));
                }
                if (calls + 3 > 512) {
                    x = new BunchRace();
                    calls = 0;
                }
                sameFault(x, text.toString());
                calls += 3;
            }
        }
    }

    private static void endTooEarly() {
        String text = "s=12:4;k<3:5";
        for (int i = 0; i <= text.length(); i++) {
            boolean whole = i == 0 || i == 6 || i == text.length();
            due("fault of the first " + i, whole ? NONE : i, fault(text.substring(0, i)));
            due("with a blank", whole ? NONE : i + 1, fault(text.substring(0, i) + " "));
        }
        due("100 bytes", 100, fault(times("n>0:1", ";", 16) + ";n>0:"));
        due("100 bytes, ; the last", 100, fault(times("n>0:1", ";", 16) + "    ;"));
        due("100 bytes, whole", NONE, fault(times("n>0:1", ";", 16) + "     "));
        due("99 bytes", 99, fault(times("n>0:1", ";", 16) + ";n>0"));
    }

    private static void twentyBytes() {
        BunchRace x = new BunchRace();
        int[] words = wordsOf("n=2:9;n=3:9; n=1 : 7".getBytes(StandardCharsets.ISO_8859_1));
        due("feed", 20, x.feed(words[0], words[1], words[2], words[3], words[4]));
        due("no fault", NONE, x.fault());
        due("orders", true, x.orders(0));
        x.rider(0, 60, 2000, 0);
        x.race(1);
        due("the last byte counts", 580, x.metres(0, 1));
    }

    /** A wrong byte at each of the twenty places is found at that place. */
    private static void highestFirst() {
        String text = "n=2:9;n=3:9; n=1 : 7";
        for (int i = 0; i < 20; i++) {
            BunchRace x = new BunchRace();
            byte[] bytes = text.getBytes(StandardCharsets.ISO_8859_1);
            bytes[i] = (byte) 200;
            int[] words = wordsOf(bytes);
            due("feed", 20, x.feed(words[0], words[1], words[2], words[3], words[4]));
            due("fault with a wrong byte at " + i, i, x.fault());
        }
        BunchRace y = new BunchRace();
        due("a number below 0", 4, y.feed(0xffffffff, 0, 0, 0, 0));
        due("the greatest number", 8, y.feed(0, Integer.MAX_VALUE, 0, 0, 0));
        due("the least number: one byte", 9, y.feed(0, 0, Integer.MIN_VALUE, 0, 0));
    }

    private static void zerosLeftOut() {
        BunchRace x = new BunchRace();
        due("all 0", 0, x.feed(0, 0, 0, 0, 0));
        String text = "n=2:9;n=3:9; n=1 : 7";
        for (int i = 0; i < 20; i++) {
            BunchRace y = new BunchRace();
            byte[] bytes = text.getBytes(StandardCharsets.ISO_8859_1);
            bytes[i] = 0;
            int[] words = wordsOf(bytes);
            due("feed with 0 at " + i, 19, y.feed(words[0], words[1], words[2], words[3], words[4]));
            due("fault with 0 at " + i, faultByPattern(text.substring(0, i) + text.substring(i + 1)), y.fault());
        }
        BunchRace z = new BunchRace();
        due("one byte of each number", 5, z.feed('n', '>' << 8, '0' << 16, ':' << 24, '7'));
        due("n>0:7", NONE, z.fault());
    }

    private static void hundredBytes() {
        int blanks = 0x20202020;
        BunchRace x = new BunchRace();
        for (int i = 1; i <= 5; i++) {
            due("feed", 20 * i, x.feed(blanks, blanks, blanks, blanks, blanks));
        }
        due("101", NONE, x.feed(0, 0, 0, 0, 0x20));
        due("100 and none", 100, x.feed(0, 0, 0, 0, 0));
        due("120", NONE, x.feed(blanks, blanks, blanks, blanks, blanks));
        due("still 100", 100, x.count(5));
        x.end(99);
        due("100 by one", 100, x.feed(0, 0, 0x2000, 0, 0));
        x.end(99);
        due("101 by two", NONE, x.feed(0x20, 0, 0, 0, 0x20));
        due("still 99", 99, x.count(5));
        x.end(80);
        due("100 by twenty", 100, x.feed(blanks, blanks, blanks, blanks, blanks));
        x.end(81);
        due("101 by twenty", NONE, x.feed(blanks, blanks, blanks, blanks, blanks));
        due("still 81", 81, x.count(5));
        due("100 by nineteen", 100, x.feed(blanks, blanks, blanks, blanks, 0x20202000));
    }

    private static void firstBytesAlone() {
        BunchRace x = new BunchRace();
        due("end(0) of none", true, x.end(0));
        due("end(1) of none", false, x.end(1));
        due("end(-1) of none", false, x.end(-1));
        bounds("end of six bytes", 0, 6, n -> {
            BunchRace y = new BunchRace();
            type(y, "n>0:1;");
            return y.end(n) && y.count(5) == n;
        });
        bounds("end of 100 bytes", 0, 100, n -> {
            BunchRace y = new BunchRace();
            type(y, times(" ", "", 100));
            return y.end(n) && y.count(5) == n;
        });
        type(x, "n>0:1;n>0:2");
        due("end(5)", true, x.end(5));
        due("what was behind is gone", false, x.end(6));
        due("n>0:1", NONE, x.fault());
        due("more comes behind the five", 8, x.feed(0x3b6e3e00, 0, 0, 0, 0));
        due("n>0:1;n>", 8, x.fault());
        due("end(2)", true, x.end(2));
        due("n>", 2, x.fault());
    }

    private static void fullTapeOfOrders() {
        String text = times("n=2:1", ";", 15) + ";n = 1 :  9";
        BunchRace x = new BunchRace();
        x.rider(4, 60, 2000, 0);
        type(x, text);
        due("orders", true, x.orders(4));
        due("empty then", 0, x.count(5));
        due("no fault then", NONE, x.fault());
        x.race(1);
        due("the last of them", 660, x.metres(0, 1));
        due("none from the empty tape", true, x.orders(4));
        x.race(1);
        due("4 without", 460, x.metres(0, 1));
    }
}
