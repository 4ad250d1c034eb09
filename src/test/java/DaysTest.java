/** Promises 9 to 19: rings, what is done, what comes, days lived, undone, drawn. */
public final class DaysTest {
    /** What the bell tells comes true, if it is told, and stays away, if it is not. */
    private static final String TRUE_BELL = "bc0 0;g10 0 0 6;r0 0 10;h0 90;";
    /** What the bell tells is kept off by telling it. */
    private static final String FALSE_BELL = "bc0 0;g10 0 6 0;r0 0 10;";
    private static final String TWO_TRUE_BELLS = "bc0 0;bc1 0;g10 0 0 6;g10 1 1 6;r0 0 10;r1 1 10;h0 52;h1 60;";

    public static void main(String[] args) {
        ring();
        done();
        comes();
        could();
        sure();
        live();
        undo();
        yesterday();
        deaf();
        may();
        drift();
        Due.end();
    }

    private static void ring() {
        TomorrowBells x = Due.town("bc0 1;bm0 1;bd0 1;bk0 1;by0 1;");
        int[] due = {2, 9, 10, 13};
        for (int day = 0; day < 4; day++) {
            Due.is("ring(" + day + ")", x.ring(day), due[day]);
        }
        Due.is("ring(60)", x.ring(60), 2);
        x.yesterday(1);
        Due.is("ring(3) behind 1", x.ring(3), 29);
        x.yesterday(2);
        Due.is("ring(3) behind 2", x.ring(3), 13);
        Due.is("ring(-1)", x.ring(-1), Due.OUTSIDE);
        Due.is("ring(64)", x.ring(64), Due.OUTSIDE);
        Due.is("double of one", Due.town("bd2 2;").ring(4), 1);
    }

    private static void done() {
        TomorrowBells x = Due.town("bc0 0;bc1 0;g10 0 0 1;g5 1 0 6;g7 0 2 0;");
        int[][] due = {{7, 10, 0}, {10, 0, 7}, {12, 10, 0}, {15, 0, 7}};
        for (int ring = 0; ring < 4; ring++) {
            for (int deed = 0; deed < 3; deed++) {
                Due.is("done(" + ring + ", " + deed + ")", x.done(ring, deed), due[ring][deed]);
            }
            Due.is("done(" + ring + ", 5)", x.done(ring, 5), 0);
        }
        Due.is("done(4, 0)", x.done(4, 0), Due.UNKNOWN);
        Due.is("done(-1, 6)", x.done(-1, 6), Due.UNKNOWN);
        Due.is("done(3, 6): none is no deed", x.done(3, 6), Due.OUTSIDE);
        Due.is("done(3, -1)", x.done(3, -1), Due.OUTSIDE);
        x.may(6);
        Due.is("may not, rung: no D", x.done(1, 0), 0);
        Due.is("may not, rung: no E", x.done(1, 1), 0);
        Due.is("may not, silent: E", x.done(0, 1), 10);
        x.deaf(0, true);
        Due.is("may not, deaf, rung: E", x.done(1, 1), 10);
        x.may(7);
        Due.is("deaf, rung: E", x.done(1, 1), 10);
        Due.is("deaf, rung: no D", x.done(1, 0), 0);
    }

    private static void comes() {
        TomorrowBells x = Due.town("bc0 0;g10 0 0 6;g5 0 0 1;r1 0 15;r2 0 16;s1 1 5;n2 3 1;n1 1 0;");
        Due.is("comes(1)", x.comes(1), 2);
        Due.is("comes(0): stopped, though of itself", x.comes(0), 0);
        x.live(0);
        Due.is("comes(1) on day 1", x.comes(1), 6);
        Due.is("comes(0) on day 1", x.comes(0), 4);
        Due.is("comes(2)", x.comes(2), Due.UNKNOWN);
        Due.is("comes(-1)", x.comes(-1), Due.UNKNOWN);
        Due.is("a rest that is never", Due.town("n0 2 5;n1 12 0;").comes(0), 2);
    }

    private static void could() {
        TomorrowBells x = Due.town(TRUE_BELL);
        Due.is("could(NONE)", x.could(Due.NONE), 2);
        Due.is("could(0)", x.could(0), 0);
        Due.is("could(1)", x.could(1), 1);
        Due.is("could(2)", x.could(2), Due.NONE);
        Due.is("could(-2)", x.could(-2), Due.NONE);
        TomorrowBells y = Due.town(FALSE_BELL);
        Due.is("silent could(NONE)", y.could(Due.NONE), 1);
        Due.is("silent could(0)", y.could(0), 1);
        Due.is("silent could(1)", y.could(1), Due.NONE);
        TomorrowBells z = Due.town(TWO_TRUE_BELLS);
        Due.is("could(NONE) of two", z.could(Due.NONE), 4);
        for (int i = 0; i < 4; i++) {
            Due.is("could(" + i + ") of two", z.could(i), i);
        }
    }

    private static void sure() {
        TomorrowBells x = Due.town(TRUE_BELL + "n3 1 0;");
        Due.is("sure(0)", x.sure(0), 8);
        Due.is("sure(1)", x.sure(1), 54);
        TomorrowBells y = Due.town("n5 1 0;");
        Due.is("sure(0) of 5 alone", y.sure(0), 32);
        Due.is("sure(1) of 5 alone", y.sure(1), 31);
        TomorrowBells z = Due.town("n0 1 0;");
        Due.is("sure(0) of 0 alone", z.sure(0), 1);
        Due.is("sure(1) of 0 alone", z.sure(1), 62);
        Due.is("sure(2)", x.sure(2), Due.OUTSIDE);
        Due.is("sure(-1)", x.sure(-1), Due.OUTSIDE);
    }

    private static void live() {
        TomorrowBells x = Due.town(TRUE_BELL);
        Due.is("live(-1)", x.live(-1), Due.OUTSIDE);
        Due.is("live(2)", x.live(2), Due.OUTSIDE);
        Due.is("told(6)", x.told(6), 0);
        for (int i = 0; i < 60; i++) {
            Due.is("live(i)", x.live(i % 2), i % 2);
        }
        Due.is("told(6)", x.told(6), 60);
        Due.is("told(7)", x.told(7), 1);
        Due.is("told(8)", x.told(8), 1200);
        Due.is("live beyond", x.live(0), Due.FULL);
        Due.is("live outside beyond", x.live(2), Due.OUTSIDE);
        Due.is("told(8)", x.told(8), 1200);
    }

    private static void undo() {
        TomorrowBells x = Due.town(TRUE_BELL);
        x.yesterday(6);
        Due.is("undo(0)", x.undo(0), 0);
        Due.is("undo(1)", x.undo(1), Due.OUTSIDE);
        x.live(1);
        x.live(0);
        x.live(1);
        Due.is("undo(-1)", x.undo(-1), Due.OUTSIDE);
        Due.is("undo(4)", x.undo(4), Due.OUTSIDE);
        Due.is("told(6)", x.told(6), 3);
        Due.is("undo(1)", x.undo(1), 2);
        Due.is("told(7)", x.told(7), 0);
        Due.is("told(8)", x.told(8), 40);
        Due.is("undo(2)", x.undo(2), 0);
        Due.is("told(7)", x.told(7), 6);
        Due.is("told(8)", x.told(8), 0);
        Due.is("yesterday(1)", x.yesterday(1), 6);
        x.drift(60);
        Due.is("undo(61)", x.undo(61), Due.OUTSIDE);
        Due.is("undo(60)", x.undo(60), 0);
    }

    private static void yesterday() {
        TomorrowBells x = Due.town("by0 0;g10 0 0 6;r1 0 10;");
        Due.is("could(0)", x.could(0), 0);
        Due.is("yesterday(63)", x.yesterday(63), 0);
        Due.is("could(0)", x.could(0), 2);
        Due.is("yesterday(64)", x.yesterday(64), Due.OUTSIDE);
        Due.is("yesterday(-1)", x.yesterday(-1), Due.OUTSIDE);
        Due.is("yesterday(1)", x.yesterday(1), 63);
        Due.is("live(0)", x.live(0), 2);
        Due.is("yesterday(0)", x.yesterday(0), Due.NOT);
        Due.is("yesterday(64)", x.yesterday(64), Due.OUTSIDE);
        Due.is("told(7)", x.told(7), 2);
    }

    private static void deaf() {
        TomorrowBells x = Due.town(TRUE_BELL);
        Due.is("deaf(0, false)", x.deaf(0, false), 0);
        Due.is("deaf(0, true)", x.deaf(0, true), 0);
        Due.is("deaf(0, true)", x.deaf(0, true), 1);
        Due.is("could(NONE)", x.could(Due.NONE), 1);
        Due.is("deaf(1, true)", x.deaf(1, true), Due.UNKNOWN);
        Due.is("deaf(-1, false)", x.deaf(-1, false), Due.UNKNOWN);
        Due.is("told(9)", x.told(9), 1);
        Due.is("deaf(0, false)", x.deaf(0, false), 1);
        Due.is("could(NONE)", x.could(Due.NONE), 2);
    }

    private static void may() {
        TomorrowBells x = Due.town(TWO_TRUE_BELLS);
        Due.is("may(2)", x.may(2), 3);
        Due.is("could(NONE)", x.could(Due.NONE), 2);
        Due.is("could(1)", x.could(1), 2);
        Due.is("may(4)", x.may(4), Due.UNKNOWN);
        Due.is("may(-1)", x.may(-1), Due.UNKNOWN);
        Due.is("told(10)", x.told(10), 2);
        Due.is("may(0)", x.may(0), 2);
        Due.is("may(3)", x.may(3), 0);
    }

    /** The seed from 0 on: 12345, 1406932606, 654583775, 1449466924, 229283573, 1109335178 .. */
    private static void drift() {
        TomorrowBells x = Due.town(TWO_TRUE_BELLS);
        Due.is("drift(0)", x.drift(0), Due.OUTSIDE);
        Due.is("drift(61)", x.drift(61), Due.OUTSIDE);
        Due.is("drift(3): days 0 0 0", x.drift(3), 0);
        Due.is("the seed", x.seed(654583775), 654583775);
        Due.is("drift(3): days 1 2 3", x.drift(3), 2 + 10 + 12);
        Due.is("told(6)", x.told(6), 6);
        Due.is("told(7)", x.told(7), 3);
        Due.is("told(8)", x.told(8), 24);
        Due.is("drift(55)", x.drift(55), Due.FULL);
        Due.is("drift(61)", x.drift(61), Due.OUTSIDE);
        Due.is("the seed", x.seed(0), 1109335178);
        x.undo(1);
        Due.is("told(7)", x.told(7), 2);
        Due.is("the seed is not undone", x.seed(0), 0);
        x.drift(55);
        Due.is("told(6)", x.told(6), 60);
        TomorrowBells y = Due.town("bc0 0;");
        y.drift(2);
        Due.is("one that could come is drawn too", y.seed(0), 1406932606);
    }
}
