import java.util.function.ToIntFunction;

/** What is refused: of several refusals the first in the document's order, and nothing changes by it. */
final class RefusedEdges {
    private static final int LEAST = Integer.MIN_VALUE;
    private static final int MOST = Integer.MAX_VALUE;

    private RefusedEdges() {
    }

    static void check() {
        theTown();
        days();
        tried();
        seen();
        severalMeet();
    }

    private static void refused(int promise, String words, String state, String call, ToIntFunction<TomorrowBells> on, int due) {
        Due.says(promise, words);
        TomorrowBells x = States.make(state);
        Due.is(state + " " + call, on.applyAsInt(x), due);
        Due.says(promise, "What is refused changes nothing.");
        Due.holds(state + " " + call + " changes nothing", States.isStill(state, x));
    }

    private static void everywhere(int promise, String words, String call, ToIntFunction<TomorrowBells> on, int due) {
        for (String state : States.ALL) {
            refused(promise, words, state, call, on, due);
        }
    }

    private static void theTown() {
        for (int letter : new int[] {-1, 256, LEAST, MOST}) {
            everywhere(2, "OUTSIDE, FULL (250).", "feed(" + letter + ")", x -> x.feed(letter), Due.OUTSIDE);
        }
        refused(2, "OUTSIDE, FULL (250).", "full", "feed(0)", x -> x.feed(0), Due.FULL);
        refused(2, "OUTSIDE, FULL (250).", "full", "feed(255)", x -> x.feed(255), Due.FULL);
        for (int what : new int[] {-1, 13, LEAST, MOST}) {
            everywhere(5, "OUTSIDE.", "told(" + what + ")", x -> x.told(what), Due.OUTSIDE);
        }
        for (int b : new int[] {-1, 5, LEAST, MOST}) {
            everywhere(6, "UNKNOWN, OUTSIDE.", "bell(" + b + ", 0)", x -> x.bell(b, 0), Due.UNKNOWN);
        }
        refused(6, "UNKNOWN, OUTSIDE.", "new", "bell(0, 0)", x -> x.bell(0, 0), Due.UNKNOWN);
        refused(6, "UNKNOWN, OUTSIDE.", "lived", "bell(3, 0)", x -> x.bell(3, 0), Due.UNKNOWN);
        for (int what : new int[] {-1, 5, LEAST, MOST}) {
            refused(6, "UNKNOWN, OUTSIDE.", "lived", "bell(2, " + what + ")", x -> x.bell(2, what), Due.OUTSIDE);
        }
        for (int g : new int[] {-1, 6, LEAST, MOST}) {
            everywhere(7, "UNKNOWN, OUTSIDE.", "group(" + g + ", 0)", x -> x.group(g, 0), Due.UNKNOWN);
        }
        refused(7, "UNKNOWN, OUTSIDE.", "new", "group(0, 0)", x -> x.group(0, 0), Due.UNKNOWN);
        refused(7, "UNKNOWN, OUTSIDE.", "lived", "group(3, 0)", x -> x.group(3, 0), Due.UNKNOWN);
        for (int what : new int[] {-1, 6, LEAST, MOST}) {
            refused(7, "UNKNOWN, OUTSIDE.", "lived", "group(2, " + what + ")", x -> x.group(2, what), Due.OUTSIDE);
        }
    }

    private static void days() {
        for (int day : new int[] {-1, 64, LEAST, MOST}) {
            everywhere(8, "OUTSIDE.", "harm(" + day + ")", x -> x.harm(day), Due.OUTSIDE);
            everywhere(9, "OUTSIDE.", "ring(" + day + ")", x -> x.ring(day), Due.OUTSIDE);
            everywhere(16, "OUTSIDE, NOT: a day was LIVED.", "yesterday(" + day + ")", x -> x.yesterday(day), Due.OUTSIDE);
        }
        refused(16, "OUTSIDE, NOT: a day was LIVED.", "lived", "yesterday(0)", x -> x.yesterday(0), Due.NOT);
        refused(16, "OUTSIDE, NOT: a day was LIVED.", "full", "yesterday(63)", x -> x.yesterday(63), Due.NOT);
        for (int ring : new int[] {-1, 32, LEAST, MOST}) {
            everywhere(10, "UNKNOWN, OUTSIDE.", "done(" + ring + ", 0)", x -> x.done(ring, 0), Due.UNKNOWN);
            everywhere(11, "UNKNOWN.", "comes(" + ring + ")", x -> x.comes(ring), Due.UNKNOWN);
        }
        refused(10, "UNKNOWN, OUTSIDE.", "new", "done(1, 0)", x -> x.done(1, 0), Due.UNKNOWN);
        refused(10, "UNKNOWN, OUTSIDE.", "lived", "done(8, 0)", x -> x.done(8, 0), Due.UNKNOWN);
        refused(11, "UNKNOWN.", "new", "comes(1)", x -> x.comes(1), Due.UNKNOWN);
        refused(11, "UNKNOWN.", "lived", "comes(8)", x -> x.comes(8), Due.UNKNOWN);
        for (int deed : new int[] {-1, 6, LEAST, MOST}) {
            everywhere(10, "UNKNOWN, OUTSIDE.", "done(0, " + deed + ")", x -> x.done(0, deed), Due.OUTSIDE);
        }
        for (int what : new int[] {-1, 2, LEAST, MOST}) {
            everywhere(13, "OUTSIDE.", "sure(" + what + ")", x -> x.sure(what), Due.OUTSIDE);
        }
        for (int i : new int[] {-1, 33, LEAST, MOST}) {
            everywhere(14, "OUTSIDE: not so many; FULL (60 days).", "live(" + i + ")", x -> x.live(i), Due.OUTSIDE);
        }
        refused(14, "OUTSIDE: not so many; FULL (60 days).", "full", "live(0)", x -> x.live(0), Due.FULL);
        for (int n : new int[] {-1, 61, LEAST, MOST}) {
            everywhere(15, "OUTSIDE: more than there are.", "undo(" + n + ")", x -> x.undo(n), Due.OUTSIDE);
        }
        refused(15, "OUTSIDE: more than there are.", "new", "undo(1)", x -> x.undo(1), Due.OUTSIDE);
        refused(15, "OUTSIDE: more than there are.", "lived", "undo(4)", x -> x.undo(4), Due.OUTSIDE);
        groupsOfDays();
        for (int n : new int[] {0, -1, 61, LEAST, MOST}) {
            everywhere(19, "OUTSIDE, FULL: more than 60 days then.", "drift(" + n + ")", x -> x.drift(n), Due.OUTSIDE);
        }
        refused(19, "OUTSIDE, FULL: more than 60 days then.", "lived", "drift(58)", x -> x.drift(58), Due.FULL);
        refused(19, "OUTSIDE, FULL: more than 60 days then.", "lived", "drift(60)", x -> x.drift(60), Due.FULL);
        refused(19, "OUTSIDE, FULL: more than 60 days then.", "full", "drift(1)", x -> x.drift(1), Due.FULL);
    }

    private static void groupsOfDays() {
        for (int g : new int[] {-1, 6, LEAST, MOST, 32}) {
            everywhere(17, "UNKNOWN.", "deaf(" + g + ", true)", x -> x.deaf(g, true), Due.UNKNOWN);
            everywhere(17, "UNKNOWN.", "deaf(" + g + ", false)", x -> x.deaf(g, false), Due.UNKNOWN);
        }
        refused(17, "UNKNOWN.", "new", "deaf(0, true)", x -> x.deaf(0, true), Due.UNKNOWN);
        refused(17, "UNKNOWN.", "lived", "deaf(3, true)", x -> x.deaf(3, true), Due.UNKNOWN);
        for (int set : new int[] {-1, 64, LEAST, MOST, 65, -8}) {
            everywhere(18, "UNKNOWN.", "may(" + set + ")", x -> x.may(set), Due.UNKNOWN);
        }
        refused(18, "UNKNOWN.", "new", "may(1)", x -> x.may(1), Due.UNKNOWN);
        refused(18, "UNKNOWN.", "lived", "may(8)", x -> x.may(8), Due.UNKNOWN);
        refused(18, "UNKNOWN.", "lived", "may(9)", x -> x.may(9), Due.UNKNOWN);
    }

    private static void tried() {
        for (int k : new int[] {-1, 7, LEAST, MOST}) {
            everywhere(20, "OUTSIDE.", "rule(" + k + ", 0)", x -> x.rule(k, 0), Due.OUTSIDE);
            everywhere(20, "OUTSIDE.", "rule(" + k + ", 1)", x -> x.rule(k, 1), Due.OUTSIDE);
        }
        for (int what : new int[] {-1, 2, LEAST, MOST}) {
            everywhere(20, "OUTSIDE.", "rule(0, " + what + ")", x -> x.rule(0, what), Due.OUTSIDE);
            everywhere(21, "OUTSIDE.", "hush(0, " + what + ")", x -> x.hush(0, what), Due.OUTSIDE);
            everywhere(23, "OUTSIDE.", "takes(" + what + ")", x -> x.takes(what), Due.OUTSIDE);
            everywhere(25, "OUTSIDE.", "answers(" + what + ")", x -> x.answers(what), Due.OUTSIDE);
        }
        for (int h : new int[] {-1, 6, LEAST, MOST}) {
            everywhere(21, "OUTSIDE.", "hush(" + h + ", 0)", x -> x.hush(h, 0), Due.OUTSIDE);
            refused(22, "UNKNOWN, OUTSIDE (h).", "lived", "run(0, " + h + ")", x -> x.run(0, h), Due.OUTSIDE);
            everywhere(26, "OUTSIDE.", "send(0, " + h + ")", x -> x.send(0, h), Due.OUTSIDE);
        }
        for (int g : new int[] {-1, 6, LEAST, MOST}) {
            everywhere(22, "UNKNOWN, OUTSIDE (h).", "run(" + g + ", 0)", x -> x.run(g, 0), Due.UNKNOWN);
        }
        refused(22, "UNKNOWN, OUTSIDE (h).", "new", "run(0, 0)", x -> x.run(0, 0), Due.UNKNOWN);
        refused(22, "UNKNOWN, OUTSIDE (h).", "lived", "run(3, 0)", x -> x.run(3, 0), Due.UNKNOWN);
        for (int b : new int[] {-1, 5, LEAST, MOST}) {
            everywhere(24, "UNKNOWN (one twice).", "wire(" + b + ", 0)", x -> x.wire(b, 0), Due.UNKNOWN);
            everywhere(24, "UNKNOWN (one twice).", "wire(0, " + b + ")", x -> x.wire(0, b), Due.UNKNOWN);
        }
        refused(24, "UNKNOWN (one twice).", "lived", "wire(3, 0)", x -> x.wire(3, 0), Due.UNKNOWN);
        refused(24, "UNKNOWN (one twice).", "lived", "wire(0, 3)", x -> x.wire(0, 3), Due.UNKNOWN);
        everywhere(24, "UNKNOWN (one twice).", "wire(0, 0)", x -> x.wire(0, 0), Due.UNKNOWN);
        refused(24, "UNKNOWN (one twice).", "lived", "wire(2, 2)", x -> x.wire(2, 2), Due.UNKNOWN);
        for (int n : new int[] {-1, 100, LEAST, MOST}) {
            everywhere(26, "OUTSIDE.", "send(" + n + ", 0)", x -> x.send(n, 0), Due.OUTSIDE);
        }
    }

    private static void seen() {
        for (int b : new int[] {-1, 5, LEAST, MOST}) {
            everywhere(27, "UNKNOWN, OUTSIDE, FULL (12).", "see(" + b + ", ..)", x -> x.see(b, true, 0, 0), Due.UNKNOWN);
            everywhere(28, "UNKNOWN.", "means(" + b + ", 0)", x -> x.means(b, 0), Due.UNKNOWN);
            everywhere(28, "UNKNOWN.", "means(" + b + ", NONE)", x -> x.means(b, Due.NONE), Due.UNKNOWN);
            everywhere(29, "UNKNOWN.", "watch(" + b + ")", x -> x.watch(b), Due.UNKNOWN);
        }
        refused(27, "UNKNOWN, OUTSIDE, FULL (12).", "new", "see(0, ..)", x -> x.see(0, true, 0, 0), Due.UNKNOWN);
        refused(27, "UNKNOWN, OUTSIDE, FULL (12).", "lived", "see(3, ..)", x -> x.see(3, true, 0, 0), Due.UNKNOWN);
        refused(28, "UNKNOWN.", "new", "means(0, NONE)", x -> x.means(0, Due.NONE), Due.UNKNOWN);
        refused(28, "UNKNOWN.", "lived", "means(3, NONE)", x -> x.means(3, Due.NONE), Due.UNKNOWN);
        refused(29, "UNKNOWN.", "new", "watch(0)", x -> x.watch(0), Due.UNKNOWN);
        refused(29, "UNKNOWN.", "lived", "watch(3)", x -> x.watch(3), Due.UNKNOWN);
        for (int day : new int[] {-1, 64, LEAST, MOST}) {
            refused(27, "UNKNOWN, OUTSIDE, FULL (12).", "lived", "see before " + day, x -> x.see(2, true, day, 0), Due.OUTSIDE);
            refused(27, "UNKNOWN, OUTSIDE, FULL (12).", "lived", "see day " + day, x -> x.see(2, true, 0, day), Due.OUTSIDE);
        }
        refused(27, "UNKNOWN, OUTSIDE, FULL (12).", "full", "see(0, ..)", x -> x.see(0, true, 0, 0), Due.FULL);
        refused(27, "UNKNOWN, OUTSIDE, FULL (12).", "full", "see(0, ..), against all", x -> x.see(0, true, 0, 1), Due.FULL);
        for (int v : new int[] {-1, LEAST}) {
            everywhere(31, "OUTSIDE.", "seed(" + v + ")", x -> x.seed(v), Due.OUTSIDE);
        }
        for (int i : new int[] {-1, 2, LEAST, MOST}) {
            everywhere(32, "UNKNOWN.", "keep(" + i + ")", x -> x.keep(i), Due.UNKNOWN);
            everywhere(33, "UNKNOWN, NOT: it was not kept.", "goBack(" + i + ")", x -> x.goBack(i), Due.UNKNOWN);
        }
        refused(33, "UNKNOWN, NOT: it was not kept.", "new", "goBack(0)", x -> x.goBack(0), Due.NOT);
        refused(33, "UNKNOWN, NOT: it was not kept.", "new", "goBack(1)", x -> x.goBack(1), Due.NOT);
        refused(33, "UNKNOWN, NOT: it was not kept.", "lived", "goBack(0)", x -> x.goBack(0), Due.NOT);
    }

    private static void first(int promise, String state, String call, ToIntFunction<TomorrowBells> on, int due) {
        refused(promise, "REFUSALS, of several the first in this order: UNKNOWN (a BELL, GROUP, IMAGE that there is not; bits of such),"
            + " OUTSIDE (another number out of its bounds), NOT (not now, as told), FULL.", state, call, on, due);
    }

    private static void severalMeet() {
        for (int letter : new int[] {-1, 256}) {
            first(2, "full", "feed(" + letter + "), no place: OUTSIDE before FULL", x -> x.feed(letter), Due.OUTSIDE);
        }
        for (String state : States.ALL) {
            first(6, state, "bell(5, 5): UNKNOWN before OUTSIDE", x -> x.bell(5, 5), Due.UNKNOWN);
            first(6, state, "bell(-1, -1): UNKNOWN before OUTSIDE", x -> x.bell(-1, -1), Due.UNKNOWN);
            first(7, state, "group(6, 6): UNKNOWN before OUTSIDE", x -> x.group(6, 6), Due.UNKNOWN);
            first(7, state, "group(-1, -1): UNKNOWN before OUTSIDE", x -> x.group(-1, -1), Due.UNKNOWN);
            first(10, state, "done(32, 6): UNKNOWN before OUTSIDE", x -> x.done(32, 6), Due.UNKNOWN);
            first(10, state, "done(-1, -1): UNKNOWN before OUTSIDE", x -> x.done(-1, -1), Due.UNKNOWN);
            first(22, state, "run(6, 6): UNKNOWN before OUTSIDE", x -> x.run(6, 6), Due.UNKNOWN);
            first(22, state, "run(-1, -1): UNKNOWN before OUTSIDE", x -> x.run(-1, -1), Due.UNKNOWN);
            first(27, state, "see(5, true, 64, 64): UNKNOWN before OUTSIDE", x -> x.see(5, true, 64, 64), Due.UNKNOWN);
            first(27, state, "see(-1, true, -1, 0): UNKNOWN before OUTSIDE", x -> x.see(-1, true, -1, 0), Due.UNKNOWN);
        }
        first(33, "new", "goBack(2), none kept: UNKNOWN before NOT", x -> x.goBack(2), Due.UNKNOWN);
        first(14, "full", "live(33) on day 60: OUTSIDE before FULL", x -> x.live(33), Due.OUTSIDE);
        first(14, "full", "live(-1) on day 60: OUTSIDE before FULL", x -> x.live(-1), Due.OUTSIDE);
        first(16, "lived", "yesterday(64) behind a day: OUTSIDE before NOT", x -> x.yesterday(64), Due.OUTSIDE);
        first(16, "full", "yesterday(-1) behind a day: OUTSIDE before NOT", x -> x.yesterday(-1), Due.OUTSIDE);
        first(19, "full", "drift(0) on day 60: OUTSIDE before FULL", x -> x.drift(0), Due.OUTSIDE);
        first(19, "full", "drift(61) on day 60: OUTSIDE before FULL", x -> x.drift(61), Due.OUTSIDE);
        first(27, "full", "see(0, true, 64, 0), all seen: OUTSIDE before FULL", x -> x.see(0, true, 64, 0), Due.OUTSIDE);
        first(27, "full", "see(0, true, 0, 64), all seen: OUTSIDE before FULL", x -> x.see(0, true, 0, 64), Due.OUTSIDE);
    }
}
