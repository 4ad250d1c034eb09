/** The edges of promises 9 to 19. */
final class DaysEdges {
    /** What each bell tells comes true, if it is told: every set of 0 .. 4 fits. Bells stand against the days' order. */
    private static final String FIVE_TRUE = "bc4 0;bc3 0;bc2 0;bc1 0;bc0 0;g1 0 0 6;g1 1 1 6;g1 2 2 6;g1 3 3 6;g1 4 4 6;"
        + "r4 0 1;r3 1 1;r2 2 1;r1 3 1;r0 4 1;";
    private static final String TWO_TRUE = "bc0 0;bc1 0;g10 0 0 6;g10 1 1 6;r0 0 10;r1 1 10;h0 52;h1 60;";
    /** What the bell tells is kept off by telling it: no day fits. */
    private static final String FALSE = "bc0 0;g10 0 6 0;r0 0 10;";

    private DaysEdges() {
    }

    static void check() {
        ring();
        ringOfYesterday();
        done();
        deafDo();
        whoMayNot();
        comes();
        stopped();
        ofThemselves();
        fits();
        silent();
        could();
        sure();
        live();
        undo();
        yesterday();
        deaf();
        may();
        drift();
        draws();
    }

    private static void ring() {
        Due.says(9, "RING of a DAY on the day that comes (a SET).");
        Due.says(9, "A DAY is a SET of HAPPENINGS.");
        TomorrowBells all = Due.town("bm5 0;bm5 0;bm5 0;bm5 0;bm5 0;");
        Due.is("five ring", all.ring(31), 31);
        Due.is("five are silent", all.ring(32), 0);
        Due.is("no bell", new TomorrowBells().ring(63), 0);
        Due.is("the last alone", Due.town("bc0 0;bc0 0;bc0 0;bc0 0;bm0 0;").ring(62), 16);
        TomorrowBells c = Due.town("bc2 1;");
        TomorrowBells m = Due.town("bm2 1;");
        TomorrowBells d = Due.town("bd2 4;");
        TomorrowBells k = Due.town("bk2 4;");
        TomorrowBells same = Due.town("bd3 3;bk3 3;");
        for (int day = 0; day < 64; day++) {
            int two = day / 4 % 2;
            int three = day / 8 % 2;
            int four = day / 16 % 2;
            Due.says(9, "RING of a DAY: BELLS that ring for it: KIND c (clean): H comes;");
            Due.is("ring(" + day + ") of c2", c.ring(day), two);
            Due.says(9, "m (muffled): H does not come;");
            Due.is("ring(" + day + ") of m2", m.ring(day), 1 - two);
            Due.says(9, "d (double): H and J come;");
            Due.is("ring(" + day + ") of d2 4", d.ring(day), two * four);
            Due.is("ring(" + day + ") of d3 3 and k3 3", same.ring(day), three * 3);
            Due.says(9, "k (cracked): H or J comes;");
            Due.is("ring(" + day + ") of k2 4", k.ring(day), Math.max(two, four));
        }
    }

    private static void ringOfYesterday() {
        Due.says(9, "y (of yesterday): H came YESTERDAY.");
        TomorrowBells x = Due.town("by2 4;");
        for (int before = 0; before < 64; before++) {
            x.yesterday(before);
            Due.is("ring(0) behind " + before, x.ring(0), before / 4 % 2);
            Due.is("ring(63) behind " + before, x.ring(63), before / 4 % 2);
        }
        Due.says(9, "DAYS are counted from 0;");
        Due.is("the day that comes on a new object", new TomorrowBells().told(6), 0);
        Due.says(9, "YESTERDAY is the DAY ahead of it (empty ahead of day 0, if it is not told otherwise).");
        TomorrowBells y = Due.town("by2 0;n2 2 0;");
        Due.is("ahead of day 0", y.ring(0), 0);
        Due.is("YESTERDAY", y.told(7), 0);
        Due.is("day 0", y.live(0), 4);
        Due.is("ahead of day 1 day 0 was", y.ring(0), 1);
        Due.is("day 1", y.live(0), 0);
        Due.is("ahead of day 2 day 1 was", y.ring(0), 0);
        y.undo(2);
        y.yesterday(4);
        Due.is("told otherwise", y.ring(0), 1);
    }

    private static void done() {
        Due.says(10, "How many PEOPLE do a DEED (0 .. 5) by a RING.");
        TomorrowBells six = Due.town("bc0 0;" + "g99 0 5 0;".repeat(6));
        Due.is("six groups, rung", six.done(1, 5), 594);
        Due.is("six groups, silent", six.done(0, 0), 594);
        Due.is("rung, not the other deed", six.done(1, 0), 0);
        Due.is("no group", Due.town("bc0 0;").done(1, 0), 0);
        Due.is("done(1, 6): none is no deed", six.done(1, 6), Due.OUTSIDE);
        Due.says(10, "DONE by a RING: each GROUP does D, if its BELL rings, else E;");
        TomorrowBells x = Due.town("bc0 0;bc0 0;g3 1 2 4;g5 0 4 2;");
        int[] two = {5, 0, 8, 3};
        int[] four = {3, 8, 0, 5};
        for (int ring = 0; ring < 4; ring++) {
            Due.is("done(" + ring + ", 2)", x.done(ring, 2), two[ring]);
            Due.is("done(" + ring + ", 4)", x.done(ring, 4), four[ring]);
        }
        TomorrowBells none = Due.town("bc0 0;g3 0 6 6;g4 0 1 1;");
        for (int deed = 0; deed < 6; deed++) {
            Due.is("none, or the same: done(0, " + deed + ")", none.done(0, deed), deed == 1 ? 4 : 0);
            Due.is("none, or the same: done(1, " + deed + ")", none.done(1, deed), deed == 1 ? 4 : 0);
        }
        Due.is("a ring that is no day's", Due.town("bc0 0;bm0 0;g2 0 1 6;g3 1 1 6;").done(3, 1), 5);
    }

    private static void deafDo() {
        Due.says(10, "a DEAF one (none at first) does E always;");
        TomorrowBells x = Due.town("bc0 0;g3 0 1 2;g4 0 1 2;");
        Due.is("none at first", x.done(1, 1), 7);
        x.deaf(1, true);
        Due.is("rung: the other does D", x.done(1, 1), 3);
        Due.is("rung: the deaf one does E", x.done(1, 2), 4);
        Due.is("silent: both do E", x.done(0, 2), 7);
        x.deaf(1, false);
        Due.is("deaf no more", x.done(1, 1), 7);
    }

    private static void whoMayNot() {
        Due.says(10, "one that MAY not act (all MAY at first) does nothing, if its BELL rings and it is not DEAF.");
        TomorrowBells x = Due.town("bc0 0;g3 0 1 2;g4 0 1 2;");
        Due.is("all may at first", x.told(10), 3);
        x.may(1);
        Due.is("rung: the other does D", x.done(1, 1), 3);
        Due.is("rung: it does not do E", x.done(1, 2), 0);
        Due.is("silent: it does E", x.done(0, 2), 7);
        x.deaf(1, true);
        Due.is("rung, deaf: it does E", x.done(1, 2), 4);
        Due.is("silent, deaf: it does E", x.done(0, 2), 7);
        x.may(3);
        Due.is("it may, rung, deaf: it does E", x.done(1, 2), 4);
    }

    private static int comesBy(String text, int ring) {
        return Due.town(text).comes(ring);
    }

    private static void comes() {
        Due.says(11, "What COMES by a RING.");
        Due.says(11, "What COMES by a RING on a day: HAPPENINGS that are caused (by PEOPLE of all GROUPS who do a DEED together)");
        String two = "bc0 0;bc1 0;g4 0 2 6;g6 1 2 3;";
        Due.is("just so many, together", comesBy(two + "r5 2 10;", 3), 32);
        Due.is("one too few", comesBy(two + "r5 2 11;", 3), 0);
        Due.is("more", comesBy(two + "r5 2 9;", 3), 32);
        Due.is("only the one does it", comesBy(two + "r5 2 10;", 1), 0);
        Due.is("only the other does it", comesBy(two + "r5 2 10;", 2), 0);
        Due.is("by those who do E", comesBy(two + "r5 3 6;", 0), 32);
        Due.is("deeds are not taken together", comesBy("bc0 0;g4 0 2 6;g6 0 3 6;r5 2 7;r4 3 7;", 1), 0);
        Due.is("one deed, more happenings", comesBy("bc0 0;g1 0 0 6;r0 0 1;r3 0 1;r5 0 1;", 1), 41);
        Due.is("one of its causes is enough", comesBy("bc0 0;g1 0 0 6;r0 0 2;r0 0 1;r0 1 1;", 1), 1);
        String six = "bc0 0;" + "g99 0 0 6;".repeat(6);
        Due.is("the most people", comesBy(six + "r0 0 594;r1 0 595;r2 0 999;", 1), 1);
        Due.is("one person", comesBy("bc0 0;g1 0 5 6;r5 5 1;", 1), 32);
        Due.is("the eighth cause", comesBy("bc0 0;g1 0 5 6;" + "r0 0 1;".repeat(7) + "r3 5 1;", 1), 8);
        Due.is("no bell, no ring", new TomorrowBells().comes(0), 0);
        Due.is("a ring that is no day's", comesBy("bc0 0;bm0 0;g2 0 1 6;g3 1 1 6;r2 1 5;", 3), 4);
    }

    private static void stopped() {
        Due.says(11, "and are not stopped.");
        String ten = "bc0 0;g10 0 0 1;";
        Due.is("stopped by just so many", comesBy(ten + "r0 0 10;s0 0 10;", 1), 0);
        Due.is("not by one too few", comesBy(ten + "r0 0 10;s0 0 11;", 1), 1);
        Due.is("another is stopped", comesBy(ten + "r0 0 10;s1 0 10;", 1), 1);
        Due.is("another deed stops", comesBy(ten + "r0 0 10;s0 1 10;", 1), 1);
        Due.is("what comes of itself is stopped", comesBy(ten + "n0 1 0;s0 1 10;", 0), 0);
        Due.is("and is not, if they do otherwise", comesBy(ten + "n0 1 0;s0 1 10;", 1), 1);
        Due.is("whatever causes it", comesBy(ten + "r0 0 1;r0 0 2;n0 1 0;s0 0 10;", 1), 0);
        Due.is("one stop is enough, the fourth", comesBy(ten + "r0 0 1;s0 0 99;s0 5 1;s1 0 1;s0 0 9;", 1), 0);
        Due.is("two groups stop together", comesBy("bc0 0;g4 0 0 6;g6 0 0 6;n0 1 0;s0 0 10;", 1), 0);
        Due.is("what does not come stays so", comesBy(ten + "s0 0 1;", 1), 0);
    }

    private static void ofThemselves() {
        Due.says(11, "or come of themselves,");
        TomorrowBells x = Due.town("n0 12 11;n1 12 0;n2 1 0;");
        for (int day = 0; day <= 60; day++) {
            int due = day % 12 == 11 ? 5 : day % 12 == 0 ? 6 : 4;
            Due.is("comes(0) on day " + day, x.comes(0), due);
            if (day < 60) {
                x.live(0);
            }
        }
        TomorrowBells never = Due.town("n0 5 5;n1 1 1;n2 11 11;");
        for (int day = 0; day < 60; day++) {
            Due.is("what leaves more over than it can, day " + day, never.live(0), 0);
        }
        TomorrowBells same = Due.town("n3 4 1;n3 4 3;n3 1 11;");
        int[] due = {0, 8, 0, 8, 0, 8};
        for (int day = 0; day < due.length; day++) {
            Due.is("one told twice, day " + day, same.live(0), due[day]);
        }
    }

    private static void fits() {
        Due.says(12, "A DAY FITS (on the day that comes, by YESTERDAY), if it COMES by its own RING.");
        TomorrowBells x = Due.town("bc0 0;g10 0 0 6;r0 0 10;");
        Due.is("both fit", x.told(12), 2);
        TomorrowBells y = Due.town("by0 0;g10 0 0 6;r1 0 10;");
        Due.is("by YESTERDAY empty", y.could(0), 0);
        Due.is("one fits", y.told(12), 1);
        y.yesterday(1);
        Due.is("by YESTERDAY", y.could(0), 2);
        TomorrowBells z = Due.town("n4 2 1;");
        Due.is("on day 0", z.live(0), 0);
        Due.is("on day 1", z.live(0), 16);
        Due.is("what no bell tells may come", Due.town("bc0 0;g1 0 6 0;r5 0 1;").could(0), 32);
        Due.is("none fits", Due.town(FALSE).told(12), 0);
        Due.is("all that can", Due.town(FIVE_TRUE).told(12), 32);
    }

    private static void silent() {
        Due.says(12, "If none FITS, the bells keep silent: what COMES by no RING at all.");
        TomorrowBells x = Due.town(FALSE);
        Due.is("how many", x.could(Due.NONE), 1);
        Due.is("it comes, as no bell rings", x.could(0), 1);
        TomorrowBells y = Due.town("bc0 0;by1 0;g10 0 6 0;g10 1 3 1;r0 0 10;r2 1 10;r4 3 10;n3 1 0;");
        y.yesterday(2);
        Due.is("none fits", y.told(12), 0);
        Due.is("the bell of yesterday is silent too", y.could(0), 13);
        y.may(0);
        Due.is("who may not does E still", y.could(0), 13);
        Due.is("it is lived", y.live(0), 13);
        TomorrowBells z = Due.town(FALSE + "s0 0 10;");
        Due.is("what is stopped then fits", z.told(12), 1);
        TomorrowBells stops = Due.town(FALSE + "r1 0 10;s1 0 10;n2 1 0;s2 0 10;");
        Due.is("none fits", stops.told(12), 0);
        Due.is("what is stopped by no ring does not come", stops.could(0), 1);
        Due.is("the muffled bell is silent too", Due.town("bm0 0;g10 0 0 6;r0 0 10;").could(0), 0);
    }

    private static void could() {
        Due.says(12, "COULD COME: all DAYS that FIT, or the silent one.");
        Due.says(12, "Of all that COULD COME: i = NONE how many, else the i-th by numbers; NONE: not so many.");
        TomorrowBells x = Due.town(FIVE_TRUE);
        TomorrowBells y = Due.town(FIVE_TRUE + "n5 1 0;");
        Due.is("could(NONE)", x.could(Due.NONE), 32);
        Due.is("could(NONE) of the upper half", y.could(Due.NONE), 32);
        for (int i = 0; i < 32; i++) {
            Due.is("could(" + i + ")", x.could(i), i);
            Due.is("could(" + i + ") of the upper half", y.could(i), 32 + i);
        }
        Due.is("could(32)", x.could(32), Due.NONE);
        Due.is("could(32) of the upper half", y.could(32), Due.NONE);
        int[] far = {-2, 63, 64, Integer.MIN_VALUE, Integer.MAX_VALUE};
        for (int i : far) {
            Due.is("could(" + i + ")", x.could(i), Due.NONE);
        }
        TomorrowBells z = Due.town(FALSE);
        Due.is("the silent one", z.could(0), 1);
        Due.is("beside it none", z.could(1), Due.NONE);
        Due.is("a new object's", new TomorrowBells().could(Due.NONE), 1);
        Due.is("a new object's", new TomorrowBells().could(0), 0);
        Due.is("a new object's", new TomorrowBells().could(1), Due.NONE);
    }

    private static void dueSure(String text, int sure, int never) {
        TomorrowBells x = Due.town(text);
        Due.is("sure(0) of " + text, x.sure(0), sure);
        Due.is("sure(1) of " + text, x.sure(1), never);
    }

    private static void sure() {
        Due.says(13, "what = 0 SURE, 1 NEVER (SETS).");
        Due.says(13, "SURE: HAPPENINGS on all that COULD COME; NEVER: on none.");
        dueSure("", 0, 63);
        dueSure(FIVE_TRUE, 0, 32);
        dueSure(FIVE_TRUE + "n5 1 0;", 32, 0);
        dueSure(FALSE, 1, 62);
        dueSure(TWO_TRUE, 0, 60);
        dueSure(TWO_TRUE + "n1 1 0;", 2, 60);
        dueSure("bc0 0;g1 0 0 0;r0 0 1;r1 0 1;r2 0 1;r3 0 1;r4 0 1;r5 0 1;", 63, 0);
        Due.says(13, "OUTSIDE.");
        Due.is("sure(2)", Due.town(FALSE).sure(2), Due.OUTSIDE);
        Due.is("sure(-1)", Due.town(FALSE).sure(-1), Due.OUTSIDE);
    }

    private static void live() {
        Due.says(14, "The i-th that COULD COME is LIVED: which DAY.");
        TomorrowBells x = Due.town(TWO_TRUE);
        Due.is("the last", x.live(3), 3);
        Due.is("the first", x.live(0), 0);
        Due.is("the second", x.live(1), 1);
        Due.says(14, "LIVED: a DAY that COULD COME is so: it is YESTERDAY then, HARM so far grows, days are counted (60 at most);"
            + " they can be undone.");
        Due.is("YESTERDAY", x.told(7), 1);
        Due.is("HARM", x.told(8), 14);
        Due.is("days", x.told(6), 3);
        Due.is("undone", x.undo(3), 0);
        TomorrowBells less = Due.town("n0 1 0;h0 0;");
        Due.is("a harm below nothing", less.live(0), 1);
        Due.is("makes it less", less.told(8), -50);
        Due.is("the upper half", Due.town(FIVE_TRUE + "n5 1 0;").live(31), 63);
        Due.says(14, "OUTSIDE: not so many; FULL (60 days).");
        Due.is("live(4)", x.live(4), Due.OUTSIDE);
        Due.is("live(-1)", x.live(-1), Due.OUTSIDE);
        Due.is("live(1) of one", Due.town(FALSE).live(1), Due.OUTSIDE);
        for (int day = 0; day < 60; day++) {
            Due.is("day " + day, x.live(day % 4), day % 4);
        }
        Due.is("the 61st", x.live(0), Due.FULL);
        Due.is("the day that comes", x.told(6), 60);
        x.undo(1);
        Due.is("there is room again", x.live(2), 2);
        Due.is("HARM", x.told(8), 15 * 24 - 12 + 10);
    }

    private static void undo() {
        Due.says(15, "The last n days LIVED (0 .. 60) are undone: which day comes.");
        TomorrowBells x = Due.town(TWO_TRUE);
        Due.is("undo(0) of none", x.undo(0), 0);
        x.yesterday(9);
        x.live(1);
        x.live(2);
        x.live(3);
        Due.is("undo(0)", x.undo(0), 3);
        Due.is("YESTERDAY", x.told(7), 3);
        Due.is("undo(1)", x.undo(1), 2);
        Due.is("YESTERDAY", x.told(7), 2);
        Due.is("HARM", x.told(8), 12);
        Due.is("undo(2), all of them", x.undo(2), 0);
        Due.is("YESTERDAY as it was told", x.told(7), 9);
        Due.is("HARM", x.told(8), 0);
        Due.says(15, "OUTSIDE: more than there are.");
        Due.is("undo(1) of none", x.undo(1), Due.OUTSIDE);
        x.live(0);
        Due.is("undo(2) of one", x.undo(2), Due.OUTSIDE);
        Due.is("undo(-1)", x.undo(-1), Due.OUTSIDE);
        x.drift(59);
        Due.is("undo(61) of 60", x.undo(61), Due.OUTSIDE);
        Due.is("undo(60) of 60", x.undo(60), 0);
        Due.is("HARM", x.told(8), 0);
        TomorrowBells less = Due.town("n0 1 0;h0 0;");
        less.drift(3);
        less.undo(1);
        Due.is("HARM below nothing is undone too", less.told(8), -100);
        less.undo(2);
        Due.is("HARM below nothing, all undone", less.told(8), 0);
        TomorrowBells y = Due.town("n0 3 2;");
        y.drift(3);
        Due.is("undone days come again by their number", y.undo(1), 2);
        Due.is("live(0)", y.live(0), 1);
        y.seed(5);
        y.undo(3);
        Due.is("THE SEED is not undone", y.seed(0), 5);
        TomorrowBells z = Due.town(TWO_TRUE);
        z.live(0);
        z.deaf(1, true);
        z.may(1);
        z.see(0, true, 0, 0);
        z.undo(1);
        Due.is("DEAF is not undone", z.told(9), 2);
        Due.is("MAY is not undone", z.told(10), 1);
        Due.is("SEEN is not undone", z.told(11), 1);
    }

    private static void yesterday() {
        Due.says(16, "YESTERDAY becomes a DAY: what it was.");
        TomorrowBells x = Due.town(TWO_TRUE);
        Due.is("yesterday(63)", x.yesterday(63), 0);
        Due.is("yesterday(0)", x.yesterday(0), 63);
        Due.is("yesterday(5)", x.yesterday(5), 0);
        Due.is("told(7)", x.told(7), 5);
        Due.is("no HARM comes of it", x.told(8), 0);
        Due.is("no day is counted", x.told(6), 0);
        Due.says(16, "OUTSIDE, NOT: a day was LIVED.");
        Due.is("yesterday(64)", x.yesterday(64), Due.OUTSIDE);
        Due.is("yesterday(-1)", x.yesterday(-1), Due.OUTSIDE);
        x.live(2);
        Due.is("yesterday(0) behind a day", x.yesterday(0), Due.NOT);
        Due.is("yesterday(2), as it is", x.yesterday(2), Due.NOT);
        x.undo(1);
        Due.is("yesterday(1), all undone", x.yesterday(1), 5);
    }

    private static void deaf() {
        Due.says(17, "A GROUP is DEAF, or is not: 1 it was, 0 it was not.");
        TomorrowBells x = Due.town("bc0 0;" + "g1 0 6 6;".repeat(6));
        for (int g = 0; g < 6; g++) {
            Due.is("not deaf stays so", x.deaf(g, false), 0);
            Due.is("becomes deaf", x.deaf(g, true), 0);
            Due.is("deaf stays so", x.deaf(g, true), 1);
            Due.is("who is deaf", x.told(9), (2 << g) - 1);
        }
        Due.is("hears again", x.deaf(2, false), 1);
        Due.is("who is deaf", x.told(9), 59);
        Due.is("who may", x.told(10), 63);
        Due.says(17, "UNKNOWN.");
        Due.is("deaf(6, true)", x.deaf(6, true), Due.UNKNOWN);
        Due.is("deaf(-1, true)", x.deaf(-1, true), Due.UNKNOWN);
        Due.is("deaf(34, true)", x.deaf(34, true), Due.UNKNOWN);
        Due.is("who is deaf", x.told(9), 59);
    }

    private static void may() {
        Due.says(18, "A SET of GROUPS MAY act, no others: what it was.");
        TomorrowBells x = Due.town("bc0 0;" + "g1 0 6 6;".repeat(6));
        Due.is("all at first", x.may(0), 63);
        Due.is("none", x.may(63), 0);
        Due.is("all", x.may(33), 63);
        Due.is("two", x.told(10), 33);
        Due.is("the first", x.group(0, 5), 1);
        Due.is("no other", x.group(1, 5), 0);
        Due.is("the last", x.group(5, 5), 1);
        Due.says(18, "UNKNOWN.");
        Due.is("may(64)", x.may(64), Due.UNKNOWN);
        Due.is("may(-1)", x.may(-1), Due.UNKNOWN);
        Due.is("may(33)", x.may(33), 33);
        Due.is("may(1) of no group", Due.town("bc0 0;").may(1), Due.UNKNOWN);
        Due.is("may(2) of one group", Due.town("bc0 0;g1 0 6 6;").may(2), Due.UNKNOWN);
    }

    private static void drift() {
        Due.says(19, "n days (1 .. 60) BY DRAWS: HARM of these.");
        TomorrowBells x = Due.town(TWO_TRUE);
        x.live(3);
        Due.is("drift(4): days 0 0 0 1, without the day before", x.drift(4), 2);
        Due.is("HARM so far", x.told(8), 14);
        Due.is("drift(1): day 2", x.drift(1), 10);
        Due.is("drift(1): day 3", x.drift(1), 12);
        Due.is("days", x.told(6), 7);
        Due.is("YESTERDAY", x.told(7), 3);
        Due.is("they are undone like others", x.undo(2), 5);
        Due.is("YESTERDAY", x.told(7), 1);
        Due.is("drift(60)", Due.town("n0 1 0;h0 0;").drift(60), -3000);
        Due.is("drift(60), each second day", Due.town("n0 2 1;").drift(60), 30);
        TomorrowBells turns = Due.town("by0 0;g10 0 6 0;r0 0 10;");
        Due.is("drift(5): each day by the one before, 1 0 1 0 1", turns.drift(5), 3);
        Due.is("YESTERDAY", turns.told(7), 1);
        Due.says(19, "OUTSIDE, FULL: more than 60 days then.");
        Due.is("drift(0)", x.drift(0), Due.OUTSIDE);
        Due.is("drift(-1)", x.drift(-1), Due.OUTSIDE);
        Due.is("drift(61)", x.drift(61), Due.OUTSIDE);
        Due.is("drift(56) on day 5", x.drift(56), Due.FULL);
        Due.is("not a day of it is so", x.told(6), 5);
        Due.is("not a draw of it is so", x.seed(0), 1109335178);
        Due.holds("drift(55) on day 5", x.drift(55) >= 0);
        Due.is("days", x.told(6), 60);
        Due.is("drift(1) on day 60", x.drift(1), Due.FULL);
    }

    private static void dueDraw(TomorrowBells x, int seed, int day) {
        x.drift(1);
        Due.is("the day drawn", x.told(7), day);
        int now = x.seed(0);
        Due.is("THE SEED then", now, seed);
        x.seed(now);
    }

    /** Worked out beside the class: the seed, then it / 65536, left over by how many could come. */
    private static void draws() {
        Due.says(19, "BY DRAWS: THE SEED (0 at first: each DRAW it becomes it times 1103515245 and 12345, left over by 2 to the 31;"
            + " the DRAW of n is it / 65536, left over by n): n days: a DRAW of how many COULD COME tells which is so (by numbers).");
        Due.says(19, "/ cuts towards 0.");
        TomorrowBells x = Due.town(FIVE_TRUE);
        dueDraw(x, 12345, 0);
        dueDraw(x, 1406932606, 28);
        dueDraw(x, 654583775, 4);
        dueDraw(x, 1449466924, 5);
        dueDraw(x, 229283573, 10);
        dueDraw(x, 1109335178, 31);
        x.seed(2147483647);
        dueDraw(x, 1043980748, 25);
        dueDraw(x, 288979989, 25);
        dueDraw(x, 646343466, 6);
        TomorrowBells upper = Due.town(FIVE_TRUE + "n5 1 0;");
        upper.seed(12345);
        dueDraw(upper, 1406932606, 60);
        TomorrowBells three = Due.town("bc0 0;bc1 0;g5 0 0 6;g5 1 1 6;g5 0 2 6;g5 1 2 6;r0 0 5;r1 1 5;s0 2 10;");
        Due.is("three could come", three.could(Due.NONE), 3);
        three.seed(1406932606);
        dueDraw(three, 654583775, 1);
        dueDraw(three, 1449466924, 1);
        dueDraw(three, 229283573, 0);
        three.seed(2147483647);
        dueDraw(three, 1043980748, 2);
        TomorrowBells one = Due.town(FALSE);
        dueDraw(one, 12345, 1);
        dueDraw(one, 1406932606, 1);
    }
}
