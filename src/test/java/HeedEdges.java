import java.util.function.Supplier;
import java.util.function.ToIntFunction;

/** What each call of the day that comes hangs on: who is DEAF, who MAY, YESTERDAY (told, lived), which day it is. */
final class HeedEdges {
    private static final String DEAF = "a DEAF one (none at first) does E always;";
    private static final String MAY = "one that MAY not act (all MAY at first) does nothing, if its BELL rings and it is not DEAF.";
    private static final String FITS = "A DAY FITS (on the day that comes, by YESTERDAY), if it COMES by its own RING.";
    private static final String YESTERDAY = "YESTERDAY is the DAY ahead of it (empty ahead of day 0, if it is not told otherwise).";
    private static final String OF_ITSELF = "H comes of itself on each day that leaves Z over by Y;";

    /** Ten hear of 0 and cause it (harm 10); if they hear nothing, they cause 2 (harm 31): 0 alone or 2 alone could come. */
    private static final String TEN = "bc0 0;bc0 0;g10 1 0 3;r0 0 10;r2 3 10;h0 60;h2 81;";
    /** Five more stop 0 and cause 4 (harm -40), if the third bell rings: then 2 and 4 come, and nothing else could. */
    private static final String FIVE_MORE = "g5 2 1 6;s0 1 5;r4 1 5;h4 10;";
    private static final String BY_YESTERDAY = "bc0 0;bc0 0;by1 0;g10 1 0 3;r0 0 10;r2 3 10;h0 60;h2 81;" + FIVE_MORE;
    private static final String BY_THE_DAY = "bc0 0;bc0 0;bc5 0;g10 1 0 3;r0 0 10;r2 3 10;h0 60;h2 81;h5 50;n5 2 1;" + FIVE_MORE;

    private HeedEdges() {
    }

    static void check() {
        deaf();
        may();
        yesterdayTold();
        yesterdayLived();
        theDay();
    }

    /** Calls in one circumstance, each on an object of its own: a call that changes something does not touch the next. */
    private static final class Calls {
        private final String words;
        private final String name;
        private final Supplier<TomorrowBells> make;

        Calls(String words, String name, Supplier<TomorrowBells> make) {
            this.words = words;
            this.name = name;
            this.make = make;
        }

        Calls due(int promise, String call, ToIntFunction<TomorrowBells> on, int answer) {
            Due.says(promise, words);
            Due.is(name + ": " + call, on.applyAsInt(make.get()), answer);
            return this;
        }

        /** What hangs on which DAYS could come, in the order of the promises. */
        void dueAll(int fit, int[] could, int sure, int never, int drift, int[] rule, int hush, int run, int[] takes, int[] send) {
            due(5, "told(12)", x -> x.told(12), fit);
            due(12, "could(NONE)", x -> x.could(Due.NONE), could.length);
            due(12, "could(0)", x -> x.could(0), could[0]);
            due(12, "could(1)", x -> x.could(1), could.length > 1 ? could[1] : Due.NONE);
            due(13, "sure(0)", x -> x.sure(0), sure);
            due(13, "sure(1)", x -> x.sure(1), never);
            due(14, "live(0)", x -> x.live(0), could[0]);
            due(14, "live(1)", x -> x.live(1), could.length > 1 ? could[1] : Due.OUTSIDE);
            due(19, "drift(1)", x -> x.drift(1), drift);
            due(20, "rule(2, 0)", x -> x.rule(2, 0), rule[0]);
            due(20, "rule(2, 1)", x -> x.rule(2, 1), rule[1]);
            due(21, "hush(0, 0)", x -> x.hush(0, 0), hush);
            due(21, "hush(0, 1)", x -> x.hush(0, 1), hush);
            due(22, "run(0, 2)", x -> x.run(0, 2), run);
            due(23, "takes(0)", x -> x.takes(0), takes[0]);
            due(23, "takes(1)", x -> x.takes(1), takes[1]);
            due(24, "wire(0, 1)", x -> x.wire(0, 1), fit);
            due(26, "send(9, 0)", x -> x.send(9, 0), send[0]);
            due(26, "send(9, 2)", x -> x.send(9, 2), send[1]);
        }

        /** 0 alone or 2 alone: the first draw takes 0; helpers are parted in two, the odd one goes to 0. */
        void dueTwo() {
            dueAll(2, new int[] {1, 4}, 0, 58, 10, new int[] {31, 0}, 1, Due.NONE, new int[] {41, 2}, new int[] {5, 4});
        }
    }

    private static TomorrowBells ten() {
        TomorrowBells x = Due.town(TEN);
        x.yesterday(1);
        return x;
    }

    private static void deaf() {
        Calls hearing = new Calls(DEAF, "they hear", HeedEdges::ten);
        hearing.due(10, "done(2, 0)", x -> x.done(2, 0), 10).due(11, "comes(2)", x -> x.comes(2), 1);
        hearing.dueTwo();
        hearing.due(25, "answers(0)", x -> x.answers(0), 0).due(25, "answers(1)", x -> x.answers(1), 1);
        Calls deaf = new Calls(DEAF, "they are deaf", () -> {
            TomorrowBells x = ten();
            x.deaf(0, true);
            return x;
        });
        deaf.due(10, "done(2, 0)", x -> x.done(2, 0), 0).due(11, "comes(2)", x -> x.comes(2), 4);
        deaf.dueAll(1, new int[] {4}, 4, 59, 31, new int[] {31, 0}, 0, 0, new int[] {31, 1}, new int[] {0, 9});
        deaf.due(25, "answers(0)", x -> x.answers(0), 1).due(25, "answers(1)", x -> x.answers(1), 1);
    }

    private static void may() {
        Calls none = new Calls(MAY, "they may not", () -> {
            TomorrowBells x = ten();
            x.may(0);
            return x;
        });
        none.due(10, "done(2, 0)", x -> x.done(2, 0), 0).due(11, "comes(2)", x -> x.comes(2), 0);
        none.dueAll(1, new int[] {4}, 4, 59, 31, new int[] {31, 0}, 0, 0, new int[] {31, 1}, new int[] {0, 9});
        none.due(25, "answers(0)", x -> x.answers(0), 1).due(25, "answers(1)", x -> x.answers(1), 1);
    }

    private static void dueTwoAndFour(Calls calls) {
        calls.dueAll(1, new int[] {20}, 20, 43, -9, new int[] {-9, 2}, 0, 0, new int[] {-9, 1}, new int[] {0, 5});
    }

    private static TomorrowBells behind(int day) {
        TomorrowBells x = Due.town(BY_YESTERDAY);
        x.yesterday(day);
        return x;
    }

    private static void yesterdayTold() {
        Calls empty = new Calls(FITS, "behind an empty day", () -> behind(0));
        empty.due(9, "ring(0)", x -> x.ring(0), 0).dueTwo();
        empty.due(25, "answers(0)", x -> x.answers(0), 1);
        Calls others = new Calls(FITS, "behind all but 1", () -> behind(61));
        others.due(9, "ring(0)", x -> x.ring(0), 0).dueTwo();
        Calls one = new Calls(FITS, "behind 1", () -> behind(2));
        one.due(9, "ring(0)", x -> x.ring(0), 4);
        dueTwoAndFour(one);
        one.due(25, "answers(0)", x -> x.answers(0), 2);
    }

    /** Day 0 has 1 of itself: day 1 comes behind it, day 2 behind a day without it. */
    private static TomorrowBells lived(int days) {
        TomorrowBells x = Due.town(BY_YESTERDAY + "n1 12 0;");
        for (int day = 0; day < days; day++) {
            Due.is("day " + day, x.live(0), day == 0 ? 3 : 20);
        }
        return x;
    }

    private static void yesterdayLived() {
        Calls one = new Calls(YESTERDAY, "behind day 0, with 1", () -> lived(1));
        one.due(9, "ring(0)", x -> x.ring(0), 4);
        dueTwoAndFour(one);
        Calls two = new Calls(YESTERDAY, "behind day 1, without", () -> lived(2));
        two.due(9, "ring(0)", x -> x.ring(0), 0).dueTwo();
        Calls undone = new Calls(YESTERDAY, "behind day 0 again", () -> {
            TomorrowBells x = lived(2);
            x.undo(1);
            return x;
        });
        undone.due(9, "ring(0)", x -> x.ring(0), 4);
        dueTwoAndFour(undone);
    }

    private static TomorrowBells onDay(int number) {
        TomorrowBells x = Due.town(BY_THE_DAY);
        for (int day = 0; day < number; day++) {
            Due.is("day " + day, x.live(0), day % 2 == 0 ? 1 : 52);
        }
        return x;
    }

    private static void theDay() {
        for (int number = 0; number < 3; number += 2) {
            int day = number;
            Calls even = new Calls(OF_ITSELF, "on day " + day, () -> onDay(day));
            even.due(11, "comes(0)", x -> x.comes(0), 4).dueTwo();
            even.due(25, "answers(0)", x -> x.answers(0), day == 0 ? 1 : 0).due(25, "answers(1)", x -> x.answers(1), 2);
        }
        Calls odd = new Calls(OF_ITSELF, "on day 1", () -> onDay(1));
        odd.due(11, "comes(0)", x -> x.comes(0), 36);
        odd.dueAll(1, new int[] {52}, 52, 11, -9, new int[] {-9, 2}, 0, 0, new int[] {-9, 1}, new int[] {0, 3});
        odd.due(25, "answers(0)", x -> x.answers(0), 0).due(25, "answers(1)", x -> x.answers(1), 2);
    }
}
