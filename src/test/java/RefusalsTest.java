import java.util.ArrayList;
import java.util.List;
import java.util.function.Consumer;
import java.util.function.Supplier;
import java.util.function.ToLongFunction;

/**
 * What is refused changes nothing, nor does what only asks, nor trying: the same object with the call and without it
 * answers all that comes then alike.
 */
public final class RefusalsTest extends Check {
    private static final int[] FAR = {Integer.MIN_VALUE, Integer.MIN_VALUE + 1, Integer.MAX_VALUE - 1, Integer.MAX_VALUE};

    private record Call(String name, ToLongFunction<BunchRace> made) {
    }

    public static void main(String[] args) {
        sentence("NONE and False on a new object", () -> refusedOn(BunchRace::new, refusedWhenNew()));
        sentence("NONE and False anywhere", RefusalsTest::refusedAnywhere);
        sentence("NONE and False with a FAULT", () -> refusedOn(RefusalsTest::faulty, refusedByFault()));
        sentence("NONE and False behind a keep", () -> refusedOn(RefusalsTest::kept, refusedBehindKeep()));
        sentence("NONE and False when full", () -> refusedOn(Check::filled, refusedWhenFull()));
        sentence("what asks changes nothing", RefusalsTest::askingChangesNothing);
        sentence("Nothing is changed by trying", RefusalsTest::tryingChangesNothing);
        finish();
    }

    /** Riders of three teams, a road with all there is, a race that is not kept, a good text on the tape. */
    private static BunchRace raced() {
        BunchRace x = new BunchRace();
        x.rider(0, 50, 300, 10);
        x.rider(0, 45, 200, 0);
        x.rider(1, 60, 2000, 50);
        x.rider(2, 40, 100, 20);
        x.rider(0, 55, 700, 33);
        x.road(3);
        x.rise(0, 2, 3);
        x.rise(1, -3, -2);
        x.rise(2, 5, 1);
        x.prime(700);
        x.prime(1500);
        x.crash(1200, 50);
        order(x, 0, "p=1:6;s<50:2");
        order(x, 1, "k<1:9;n>0:5");
        choose(x, 0, "n>0:3");
        choose(x, 1, "g>3:8;p=2:7");
        x.limit(30);
        x.race(77);
        type(x, "k>1:7;n=2:5");
        return x;
    }

    private static BunchRace kept() {
        BunchRace x = raced();
        x.limit(1);
        x.race(78);
        x.keep();
        due("some are out", true, x.count(6) > 0);
        return x;
    }

    private static BunchRace faulty() {
        BunchRace x = raced();
        type(x, "k>1:7;n=2:x");
        return x;
    }

    private static void add(List<Call> calls, String name, ToLongFunction<BunchRace> made) {
        calls.add(new Call(name, made));
    }

    private static void addTruth(List<Call> calls, String name, java.util.function.Predicate<BunchRace> made) {
        calls.add(new Call(name, x -> made.test(x) ? 1 : NONE));
    }

    /** Each argument out of its bounds by one and by far, the others within them. */
    private static List<Call> refusedByBounds() {
        List<Call> calls = new ArrayList<>();
        for (int v : outside(0, 4)) {
            add(calls, "rider's team " + v, x -> x.rider(v, 30, 100, 0));
            addTruth(calls, "orders(" + v + ")", x -> x.orders(v));
            add(calls, "team(" + v + ")", x -> x.team(v));
            add(calls, "attempt's team " + v, x -> x.attempt(v, 500, 0, 0, 1));
            add(calls, "best's team " + v, x -> x.best(v, 500, 1));
        }
        for (int v : outside(1, 60)) {
            add(calls, "steady " + v, x -> x.rider(0, v, 100, 0));
        }
        for (int v : outside(0, 2000)) {
            add(calls, "full " + v, x -> x.rider(0, 30, v, 0));
        }
        for (int v : outside(0, 50)) {
            add(calls, "climb " + v, x -> x.rider(0, 30, 100, v));
        }
        for (int v : outside(1, 30)) {
            addTruth(calls, "road(" + v + ")", x -> x.road(v));
        }
        for (int v : outside(-5, 10)) {
            addTruth(calls, "rise " + v, x -> x.rise(0, v, 0));
        }
        for (int v : outside(-3, 9)) {
            addTruth(calls, "wind " + v, x -> x.rise(0, 0, v));
        }
        for (int v : outside(1, 100)) {
            addTruth(calls, "limit(" + v + ")", x -> x.limit(v));
        }
        for (int v : outside(0, 100)) {
            addTruth(calls, "part " + v, x -> x.crash(500, v));
        }
        addByMetres(calls);
        addBySizes(calls);
        return calls;
    }

    /** What is refused by the road that the object has. */
    private static void addByMetres(List<Call> calls) {
        for (int v : new int[] {0, -1, Integer.MIN_VALUE, Integer.MAX_VALUE}) {
            add(calls, "prime(" + v + ")", x -> x.prime(v));
            addTruth(calls, "crash at " + v, x -> x.crash(v, 50));
            add(calls, "attempt at " + v, x -> x.attempt(0, v, 0, 0, 1));
            add(calls, "best at " + v, x -> x.best(0, v, 1));
        }
        add(calls, "prime at the end", x -> x.prime(1000 * x.count(1)));
        addTruth(calls, "crash at the end", x -> x.crash(1000 * x.count(1), 50));
        add(calls, "attempt at the end", x -> x.attempt(0, 1000 * x.count(1), 0, 0, 1));
        add(calls, "best at the end", x -> x.best(0, 1000 * x.count(1), 1));
        addTruth(calls, "rise of kilometre -1", x -> x.rise(-1, 1, 1));
        addTruth(calls, "rise behind the last kilometre", x -> x.rise(x.count(1), 1, 1));
        addTruth(calls, "rise of the greatest", x -> x.rise(Integer.MAX_VALUE, 1, 1));
        addTruth(calls, "rise of the least", x -> x.rise(Integer.MIN_VALUE, 1, 1));
    }

    /** What is refused by how many the object has. */
    private static void addBySizes(List<Call> calls) {
        for (int v : FAR) {
            addTruth(calls, "end(" + v + ")", x -> x.end(v));
            add(calls, "attempt's first " + v, x -> x.attempt(0, 500, v, 0, 1));
            add(calls, "attempt's then " + v, x -> x.attempt(0, 500, 0, v, 1));
            add(calls, "told of " + v, x -> x.told(v, 0));
            add(calls, "told " + v, x -> x.told(0, v));
            add(calls, "at(" + v + ")", x -> x.at(v));
            add(calls, "passed of " + v, x -> x.passed(v, 1));
            add(calls, "passed at " + v, x -> x.passed(0, v));
            add(calls, "metres of " + v, x -> x.metres(v, 0));
            add(calls, "metres in " + v, x -> x.metres(0, v));
            add(calls, "groups(" + v + ")", x -> x.groups(v));
            add(calls, "sum of " + v, x -> x.sum(v, 0));
            add(calls, "sum " + v, x -> x.sum(0, v));
            add(calls, "count(" + v + ")", x -> x.count(v));
        }
        addTruth(calls, "end(-1)", x -> x.end(-1));
        addTruth(calls, "end behind the tape", x -> x.end(x.count(5) + 1));
        add(calls, "a first choice that there is not", x -> x.attempt(0, 500, x.count(4), 0, 1));
        add(calls, "a then choice that there is not", x -> x.attempt(0, 500, 0, x.count(4), 1));
        add(calls, "a choice -1", x -> x.attempt(0, 500, 0, -1, 1));
        add(calls, "bytes beyond 100", x -> overfeed(x));
    }

    /** Twenty bytes at a time till it is refused would change it, so the tape is brought back by its end. */
    private static long overfeed(BunchRace x) {
        int had = x.count(5);
        int blanks = 0x20202020;
        for (int i = 0; i < 6; i++) {
            int now = x.count(5);
            if (x.feed(blanks, blanks, blanks, blanks, blanks) == NONE) {
                due("as many bytes as before", now, x.count(5));
                due("the tape as it was", true, x.end(had));
                return NONE;
            }
        }
        return 0;
    }

    private static int[] outside(int least, int most) {
        return new int[] {least - 1, most + 1, Integer.MIN_VALUE, Integer.MAX_VALUE};
    }

    private static void refusedAnywhere() {
        List<Supplier<BunchRace>> states = List.of(BunchRace::new, RefusalsTest::raced, RefusalsTest::kept);
        for (Supplier<BunchRace> state : states) {
            refusedOn(state, refusedByBounds());
        }
    }

    private static List<Call> refusedWhenNew() {
        List<Call> calls = new ArrayList<>();
        add(calls, "race(5)", x -> x.race(5));
        add(calls, "race(least)", x -> x.race(Long.MIN_VALUE));
        add(calls, "keep()", x -> x.keep());
        add(calls, "attempt", x -> x.attempt(0, 500, 0, 0, 1));
        add(calls, "best", x -> x.best(0, 500, 1));
        add(calls, "told", x -> x.told(0, 0));
        add(calls, "at", x -> x.at(1));
        add(calls, "passed", x -> x.passed(0, 1));
        add(calls, "metres", x -> x.metres(0, 0));
        add(calls, "groups", x -> x.groups(0));
        add(calls, "sum", x -> x.sum(0, 0));
        add(calls, "team", x -> x.team(0));
        addTruth(calls, "end(1)", x -> x.end(1));
        addTruth(calls, "rise(1, 0, 0)", x -> x.rise(1, 0, 0));
        return calls;
    }

    private static List<Call> refusedByFault() {
        List<Call> calls = new ArrayList<>();
        for (int team = 0; team < 5; team++) {
            int its = team;
            addTruth(calls, "orders(" + team + ")", x -> x.orders(its));
        }
        add(calls, "choice()", x -> x.choice());
        return calls;
    }

    private static List<Call> refusedBehindKeep() {
        List<Call> calls = new ArrayList<>();
        add(calls, "rider", x -> x.rider(0, 30, 100, 0));
        add(calls, "keep()", x -> x.keep());
        return calls;
    }

    private static List<Call> refusedWhenFull() {
        List<Call> calls = new ArrayList<>();
        add(calls, "rider", x -> x.rider(0, 30, 100, 0));
        add(calls, "prime", x -> x.prime(500));
        add(calls, "choice", x -> x.choice());
        add(calls, "keep", x -> x.keep());
        add(calls, "feed of one byte", x -> x.feed(0, 0, 0x20, 0, 0));
        add(calls, "feed of twenty", x -> x.feed(-1, -1, -1, -1, -1));
        addTruth(calls, "rise of kilometre 30", x -> x.rise(30, 1, 1));
        addTruth(calls, "end(101)", x -> x.end(101));
        add(calls, "attempt with choice 4", x -> x.attempt(0, 500, 4, 0, 1));
        add(calls, "sum of rider 20", x -> x.sum(20, 0));
        add(calls, "told of rider 20", x -> x.told(20, 0));
        return calls;
    }

    private static void askingChangesNothing() {
        List<Call> calls = new ArrayList<>();
        add(calls, "fault", x -> x.fault());
        add(calls, "feed of nothing", x -> x.feed(0, 0, 0, 0, 0));
        addTruth(calls, "end as long as it is", x -> x.end(x.count(5)));
        for (int i = 0; i < 8; i++) {
            int its = i;
            add(calls, "told", x -> x.told(0, its));
            add(calls, "sum", x -> x.sum(0, its));
            add(calls, "count", x -> x.count(its));
            add(calls, "at", x -> x.at(its));
            add(calls, "passed", x -> x.passed(0, its));
            add(calls, "metres", x -> x.metres(1, its));
            add(calls, "groups", x -> x.groups(its));
            add(calls, "team", x -> x.team(its));
        }
        unchanged(RefusalsTest::raced, calls, false);
        unchanged(RefusalsTest::kept, calls, false);
        unchanged(RefusalsTest::faulty, calls, false);
    }

    private static void tryingChangesNothing() {
        List<Call> calls = new ArrayList<>();
        for (int team = 0; team < 5; team++) {
            int its = team;
            add(calls, "best of team " + team, x -> x.best(its, 1, 5));
            add(calls, "best of team " + team, x -> x.best(its, 999, Long.MIN_VALUE));
            add(calls, "attempt of team " + team, x -> x.attempt(its, 500, 0, 1, 77));
            add(calls, "attempt of team " + team, x -> x.attempt(its, 999, 1, 0, -1));
        }
        unchanged(RefusalsTest::raced, calls, false);
        unchanged(RefusalsTest::kept, calls, false);
        unchanged(Check::filled, calls, false);
    }

    private static void refusedOn(Supplier<BunchRace> state, List<Call> calls) {
        unchanged(state, calls, true);
    }

    private static void unchanged(Supplier<BunchRace> state, List<Call> calls, boolean refused) {
        List<String> want = witness(state, x -> {
        });
        for (Call call : calls) {
            List<String> got = witness(state, x -> {
                long answer = call.made().applyAsLong(x);
                if (refused) {
                    due(call.name(), NONE, answer);
                }
            });
            for (int i = 0; i < want.size(); i++) {
                due(call.name() + " left view " + i + " as it was", true, want.get(i).equals(got.get(i)));
            }
        }
    }

    /** All that can be seen then, on several objects alike, so that none has more than 512 calls. */
    private static List<String> witness(Supplier<BunchRace> state, Consumer<BunchRace> call) {
        List<Consumer<Seen>> views = List.of(RefusalsTest::seeRace, RefusalsTest::seeMinutes, RefusalsTest::seeSums,
                RefusalsTest::seeTape, RefusalsTest::seeNextRace, RefusalsTest::seeTried, RefusalsTest::seeRoom,
                RefusalsTest::seeOrders);
        List<String> all = new ArrayList<>();
        for (Consumer<Seen> view : views) {
            Seen seen = new Seen(state.get());
            call.accept(seen.object);
            view.accept(seen);
            all.add(seen.text.toString());
        }
        return all;
    }

    private static final class Seen {
        final BunchRace object;
        final StringBuilder text = new StringBuilder();

        Seen(BunchRace object) {
            this.object = object;
        }

        void note(long answer) {
            text.append(answer).append(' ');
        }

        void note(boolean answer) {
            text.append(answer).append(' ');
        }
    }

    private static void seeRace(Seen seen) {
        BunchRace x = seen.object;
        for (int rider = 0; rider <= 20; rider++) {
            for (int what = 0; what < 8; what++) {
                seen.note(x.told(rider, what));
            }
            seen.note(x.at(rider));
        }
        for (int prime = 0; prime < 5; prime++) {
            for (int place = 1; place <= 3; place++) {
                seen.note(x.passed(prime, place));
            }
        }
    }

    private static void seeMinutes(Seen seen) {
        BunchRace x = seen.object;
        for (int minute = 0; minute < 70; minute += 5) {
            for (int rider = 0; rider < 20; rider++) {
                seen.note(x.metres(rider, minute));
            }
            seen.note(x.groups(minute));
        }
    }

    private static void seeSums(Seen seen) {
        BunchRace x = seen.object;
        for (int rider = 0; rider < 20; rider++) {
            for (int what = 0; what < 4; what++) {
                seen.note(x.sum(rider, what));
            }
        }
        for (int i = 0; i < 8; i++) {
            seen.note(x.count(i));
            seen.note(x.team(i));
        }
    }

    /** The fault of each shorter tape tells its bytes, or all that counts of them. */
    private static void seeTape(Seen seen) {
        BunchRace x = seen.object;
        for (int length = x.count(5); length >= 0; length--) {
            seen.note(x.end(length));
            seen.note(x.fault());
        }
    }

    /** Riders, road, orders, limit and those out, by the next race. */
    private static void seeNextRace(Seen seen) {
        BunchRace x = seen.object;
        seen.note(x.race(4711));
        for (int rider = 0; rider < 20; rider++) {
            for (int what = 1; what < 8; what++) {
                seen.note(x.told(rider, what));
            }
        }
        seen.note(x.keep());
        seeSums(seen);
    }

    private static void seeTried(Seen seen) {
        BunchRace x = seen.object;
        for (int team = 0; team < 5; team++) {
            for (int a = 0; a < 4; a++) {
                for (int b = 0; b < 4; b++) {
                    seen.note(x.attempt(team, 700, a, b, 99));
                }
            }
        }
        seen.note(x.best(0, 900, 98));
    }

    /** How much more of each it takes, and with what number. */
    private static void seeRoom(Seen seen) {
        BunchRace x = seen.object;
        seen.note(x.keep());
        seen.note(x.prime(800));
        seen.note(x.feed(0x20, 0, 0, 0, 0));
        seen.note(x.choice());
        seen.note(x.rider(3, 30, 100, 0));
        seen.note(x.race(3));
        seen.note(x.keep());
        seen.note(x.rider(3, 30, 100, 0));
        for (int i = 0; i < 8; i++) {
            seen.note(x.count(i));
        }
    }

    private static void seeOrders(Seen seen) {
        BunchRace x = seen.object;
        seen.note(x.orders(0));
        seen.note(x.count(5));
        seen.note(x.race(12));
        for (int rider = 0; rider < 20; rider++) {
            seen.note(x.told(rider, 7));
            seen.note(x.metres(rider, 1));
        }
    }
}
