import java.util.function.IntUnaryOperator;

/** What is promised holds up to an object's 512th call: each call is made again and again, the last time as the 512th. */
final class LastCallEdges {
    private static final String TEXT = "bc0 0;bc0 0;g10 1 0 6;r0 0 10;";
    private static final int CALLS = 512;

    private LastCallEdges() {
    }

    interface Step {
        int of(TomorrowBells x, int i);
    }

    static void check() {
        theTown();
        days();
        tried();
        seen();
    }

    private static void upToTheLast(int promise, String call, Step step, IntUnaryOperator due) {
        Due.says(promise, "An object is used for at most 512 calls after it has been made;");
        TomorrowBells x = Due.town(TEXT);
        int made = TEXT.length() + 1;
        for (int i = 0; i < CALLS - made; i++) {
            Due.is(call + " as call " + (made + i + 1), step.of(x, i), due.applyAsInt(i));
        }
    }

    /** The steps end with an even one: where two calls go by turns, that which is tried is the even one. */
    private static boolean isEven(int i) {
        return i % 2 == 0;
    }

    private static void theTown() {
        upToTheLast(2, "feed(32)", (x, i) -> i % 251 == 250 ? x.town() : x.feed(' '), i -> i % 251 == 250 ? 0 : i % 251 + 1);
        upToTheLast(3, "town()", (x, i) -> isEven(i) ? x.town() : x.feed('x'), i -> i == 0 ? 0 : isEven(i) ? -11 : 1);
        upToTheLast(4, "fault()", (x, i) -> x.fault(), i -> Due.NONE);
        upToTheLast(5, "told(12)", (x, i) -> x.told(12), i -> 2);
        upToTheLast(6, "bell(1, 3)", (x, i) -> x.bell(1, 3), i -> 10);
        upToTheLast(7, "group(0, 0)", (x, i) -> x.group(0, 0), i -> 10);
        upToTheLast(8, "harm(63)", (x, i) -> x.harm(63), i -> 6);
    }

    private static void days() {
        upToTheLast(9, "ring(1)", (x, i) -> x.ring(1), i -> 3);
        upToTheLast(10, "done(2, 0)", (x, i) -> x.done(2, 0), i -> 10);
        upToTheLast(11, "comes(2)", (x, i) -> x.comes(2), i -> 1);
        upToTheLast(12, "could(..)", (x, i) -> x.could(i % 3 - 1), i -> i % 3 == 0 ? 2 : i % 3 - 1);
        upToTheLast(13, "sure(..)", (x, i) -> x.sure(i % 2), i -> isEven(i) ? 0 : 62);
        upToTheLast(14, "live(1)", (x, i) -> isEven(i) ? x.live(1) : x.undo(1), i -> isEven(i) ? 1 : 0);
        upToTheLast(15, "undo(..)", (x, i) -> isEven(i) ? x.undo(Math.min(i, 1)) : x.live(1), i -> isEven(i) ? 0 : 1);
        upToTheLast(16, "yesterday(..)", (x, i) -> x.yesterday(i % 64), i -> i == 0 ? 0 : (i - 1) % 64);
        upToTheLast(17, "deaf(0, ..)", (x, i) -> x.deaf(0, isEven(i)), i -> i % 2);
        upToTheLast(18, "may(..)", (x, i) -> x.may(i % 2), i -> isEven(i) ? 1 : 0);
        upToTheLast(19, "drift(1)", (x, i) -> isEven(i) ? x.drift(1) : x.undo(1), i -> isEven(i) ? draw(i / 2) : 0);
    }

    /** The draw of two, after so many others. */
    private static int draw(int others) {
        long seed = 0;
        for (int i = 0; i <= others; i++) {
            seed = (seed * 1103515245L + 12345L) % (1L << 31);
        }
        return (int) (seed / 65536 % 2);
    }

    private static void tried() {
        upToTheLast(20, "rule(1, ..)", (x, i) -> x.rule(1, i % 2), i -> 0);
        upToTheLast(21, "hush(0, ..)", (x, i) -> x.hush(0, i % 2), i -> 1);
        upToTheLast(22, "run(0, 0)", (x, i) -> x.run(0, 0), i -> Due.NONE);
        upToTheLast(23, "takes(..)", (x, i) -> x.takes(i % 2), i -> isEven(i) ? 1 : 2);
        upToTheLast(24, "wire(0, 1)", (x, i) -> x.wire(0, 1), i -> 2);
        upToTheLast(25, "answers(..)", (x, i) -> x.answers(i % 2), i -> i % 2);
        upToTheLast(26, "send(7, 0)", (x, i) -> x.send(7, 0), i -> 7);
    }

    private static void seen() {
        upToTheLast(27, "see(..)", (x, i) -> isEven(i) ? x.see(0, true, 0, 1) : x.tear(), i -> 1);
        upToTheLast(28, "means(0, NONE)", (x, i) -> x.means(0, Due.NONE), i -> 48);
        upToTheLast(29, "watch(0)", (x, i) -> x.watch(0), i -> 15);
        upToTheLast(30, "tear()", (x, i) -> isEven(i) ? x.tear() : x.see(0, true, 0, 1), i -> i == 0 ? 0 : 1);
        upToTheLast(31, "seed(..)", (x, i) -> x.seed(i), i -> Math.max(0, i - 1));
        upToTheLast(32, "keep(..)", (x, i) -> x.keep(i % 2), i -> 1);
        upToTheLast(33, "goBack(0)", (x, i) -> i == 0 ? x.keep(0) : x.goBack(0), i -> 1);
    }
}
