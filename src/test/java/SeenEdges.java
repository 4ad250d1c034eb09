/** The edges of promises 27 to 33. */
final class SeenEdges {
    private static final int[] FAR = {-2, 48, 49, Integer.MIN_VALUE, Integer.MAX_VALUE};
    private static final String TWO_TRUE = "bc0 0;bc1 0;g10 0 0 6;g10 1 1 6;r0 0 10;r1 1 10;h0 52;h1 60;";

    private SeenEdges() {
    }

    static void check() {
        see();
        means();
        everySignIsTold();
        meansBySeen();
        eachOfTwelveCounts();
        watch();
        tear();
        seed();
        keep();
        goBack();
        imagesAreParted();
        whatImagesLeave();
    }

    private static void see() {
        Due.says(27, "SEEN of a BELL: how much of it.");
        Due.says(27, "SEEN of a BELL (12 at most):");
        TomorrowBells x = Due.town("bc0 0;bc0 0;bc0 0;bc0 0;bc0 0;");
        for (int b = 0; b < 5; b++) {
            for (int i = 1; i <= 12; i++) {
                Due.is("see of " + b, x.see(b, i % 2 == 0, 63 - i, i), i);
            }
            Due.is("the 13th of " + b, x.see(b, true, 0, 0), Due.FULL);
            Due.is("the 13th of " + b, x.see(b, false, 0, 0), Due.FULL);
            Due.is("SEEN of it", x.bell(b, 4), 12);
            Due.is("SEEN of all", x.told(11), 12 * b + 12);
        }
        Due.says(27, "UNKNOWN, OUTSIDE, FULL (12).");
        TomorrowBells y = Due.town("bc0 0;");
        Due.is("see(1, ..)", y.see(1, true, 0, 0), Due.UNKNOWN);
        Due.is("see(-1, ..)", y.see(-1, true, 0, 0), Due.UNKNOWN);
        Due.is("before 64", y.see(0, true, 64, 0), Due.OUTSIDE);
        Due.is("before -1", y.see(0, true, -1, 0), Due.OUTSIDE);
        Due.is("day 64", y.see(0, true, 0, 64), Due.OUTSIDE);
        Due.is("day -1", y.see(0, true, 0, -1), Due.OUTSIDE);
        Due.is("the least", y.see(0, true, 0, 0), 1);
        Due.is("the greatest", y.see(0, true, 63, 63), 2);
        Due.is("the same again counts", y.see(0, true, 63, 63), 3);
        Due.is("the contrary counts", y.see(0, false, 63, 63), 4);
        Due.is("what is seen is not lived", y.told(6), 0);
        Due.is("nor YESTERDAY", y.told(7), 0);
    }

    private static void means() {
        Due.says(28, "MEANS: i = NONE how many, else the i-th; NONE: not so many.");
        Due.says(28, "MEANS: signs (KIND c m d k y, numbered so; H; J: for d, k above H, else 0)");
        Due.says(28, "how many; the i-th (KIND, then H, then J): 100 times KIND, 10 times H, J.");
        TomorrowBells x = Due.town("by5 5;");
        Due.is("how many", x.means(0, Due.NONE), 48);
        for (int i = 0; i < 48; i++) {
            Due.is("means(0, " + i + ")", x.means(0, i), Signs.ALL[i]);
        }
        for (int i : FAR) {
            Due.is("means(0, " + i + ")", x.means(0, i), Due.NONE);
        }
        x.see(0, true, 0, 0);
        x.see(0, false, 0, 0);
        Due.is("how many are left by what can't be", x.means(0, Due.NONE), 0);
        Due.is("the first of none", x.means(0, 0), Due.NONE);
        Due.says(28, "UNKNOWN.");
        Due.is("means(1, 0)", x.means(1, 0), Due.UNKNOWN);
        Due.is("means(1, NONE)", x.means(1, Due.NONE), Due.UNKNOWN);
        Due.is("means(-1, 0)", x.means(-1, 0), Due.UNKNOWN);
        Due.is("means(-1, NONE)", x.means(-1, Due.NONE), Due.UNKNOWN);
    }

    /** Days of one happening alone and of all but one, behind shifted ones, leave a single sign: each of the 48 in turn. */
    private static void everySignIsTold() {
        Due.says(28, "by which all SEEN of it is so:");
        Due.says(28, "whether it rang, YESTERDAY, the DAY.");
        for (int sign : Signs.ALL) {
            TomorrowBells x = Due.town("bk4 5;");
            for (int h = 0; h < 6; h++) {
                int alone = 1 << h;
                int behindAlone = 1 << (h + 1) % 6;
                int without = 63 - alone;
                int behindWithout = 1 << (h + 2) % 6;
                x.see(0, Signs.rings(sign, behindAlone, alone), behindAlone, alone);
                x.see(0, Signs.rings(sign, behindWithout, without), behindWithout, without);
            }
            Due.is("twelve are seen", x.bell(0, 4), 12);
            Due.is("how many are left", x.means(0, Due.NONE), 1);
            Due.is("which is left", x.means(0, 0), sign);
            Due.is("no other", x.means(0, 1), Due.NONE);
            Due.is("nothing parts one", x.watch(0), Due.NONE);
        }
    }

    /** Silent on an empty day behind an empty one: all but the muffled. Ringing for 0 alone then leaves c0 and k0 with another. */
    private static void eachOfTwelveCounts() {
        Due.says(28, "by which all SEEN of it is so:");
        for (int telling = 0; telling < 12; telling++) {
            TomorrowBells x = Due.town("bc0 0;bc0 0;");
            for (int i = 0; i < 12; i++) {
                x.see(1, i == telling, 0, i == telling ? 1 : 0);
            }
            Due.is("number " + telling + " tells", x.means(1, Due.NONE), 6);
            Due.is("the first left", x.means(1, 0), 0);
            Due.is("the last left", x.means(1, 5), 305);
            Due.is("refused, one more", x.see(1, false, 0, 1), Due.FULL);
            Due.is("number " + telling + " tells still", x.means(1, Due.NONE), 6);
            Due.is("of the other bell nothing is known", x.means(0, Due.NONE), 48);
        }
    }

    private static void meansBySeen() {
        Due.says(28, "by which all SEEN of it is so:");
        TomorrowBells x = Due.town("bc0 0;bc0 0;");
        x.see(0, true, 0, 0);
        Due.is("rings for nothing: muffled ones", x.means(0, Due.NONE), 6);
        Due.is("the first", x.means(0, 0), 100);
        Due.is("the last", x.means(0, 5), 150);
        Due.is("of another nothing was seen", x.means(1, Due.NONE), 48);
        x.see(0, true, 63, 1);
        Due.is("not muffled of 0", x.means(0, 0), 110);
        Due.is("five", x.means(0, Due.NONE), 5);
        x.see(1, true, 1, 0);
        Due.is("muffled, or 0 of yesterday", x.means(1, Due.NONE), 7);
        Due.is("the last", x.means(1, 6), 400);
        x.see(1, false, 0, 1);
        Due.is("two", x.means(1, Due.NONE), 2);
        Due.is("muffled of 0", x.means(1, 0), 100);
        Due.is("0 of yesterday", x.means(1, 1), 400);
        TomorrowBells y = Due.town("bc0 0;");
        for (int i = 0; i < 11; i++) {
            y.see(0, true, 0, 63);
        }
        Due.is("c, d, k", y.means(0, Due.NONE), 36);
        y.see(0, false, 0, 31);
        Due.is("the twelfth counts: 5, and d of 5", y.means(0, Due.NONE), 6);
    }

    /** Sightings as {rang, before, day}; what is due was worked out beside the class. */
    private static void dueWatch(int due, int left, int[]... seen) {
        TomorrowBells x = Due.town("bc0 0;");
        for (int[] s : seen) {
            x.see(0, s[0] == 1, s[1], s[2]);
        }
        Due.is("how many are left", x.means(0, Due.NONE), left);
        Due.is("watch(0) of " + left, x.watch(0), due);
    }

    private static void watch() {
        Due.says(29, "WATCH: of all DAYS (YESTERDAY empty) that for which signs that are left are parted most evenly (the greater"
            + " part least);");
        int[] ringsForAll = {1, 0, 63};
        int[] notForNone = {0, 0, 0};
        dueWatch(15, 48);
        dueWatch(7, 36, ringsForAll, notForNone);
        dueWatch(31, 12, ringsForAll, notForNone, new int[] {0, 0, 15});
        dueWatch(14, 6, notForNone, new int[] {1, 0, 1});
        dueWatch(7, 12, new int[] {0, 63, 0}, new int[] {1, 0, 48});
        dueWatch(35, 6, new int[] {0, 63, 0}, new int[] {0, 0, 31}, ringsForAll);
        Due.says(29, "of like ones the least;");
        dueWatch(7, 6, new int[] {1, 0, 0});
        dueWatch(6, 5, new int[] {1, 0, 0}, new int[] {1, 0, 1});
        dueWatch(0, 11, new int[] {1, 0, 32});
        dueWatch(0, 12, new int[] {1, 63, 0});
        dueWatch(3, 7, new int[] {1, 1, 0});
        dueWatch(0, 2, new int[] {1, 1, 0}, new int[] {0, 0, 1});
        dueWatch(48, 2, new int[] {1, 1, 48}, new int[] {0, 0, 16}, new int[] {0, 0, 32});
        dueWatch(30, 16, new int[] {1, 0, 33});
        dueWatch(62, 21, new int[] {0, 0, 1}, new int[] {0, 0, 56});
        Due.says(29, "WATCH; NONE.");
        Due.says(29, "NONE: none parts them.");
        dueWatch(Due.NONE, 6, notForNone, new int[] {0, 0, 63});
        dueWatch(Due.NONE, 1, new int[] {0, 63, 62}, new int[] {0, 63, 61}, ringsForAll);
        dueWatch(Due.NONE, 0, notForNone, new int[] {1, 0, 0});
        TomorrowBells other = Due.town("bc0 0;bc0 0;");
        other.see(1, true, 0, 0);
        Due.is("by what was seen of the bell itself", other.watch(1), 7);
        Due.is("of another bell nothing was seen", other.watch(0), 15);
        Due.says(29, "UNKNOWN.");
        TomorrowBells x = Due.town("bc0 0;");
        Due.is("watch(1)", x.watch(1), Due.UNKNOWN);
        Due.is("watch(-1)", x.watch(-1), Due.UNKNOWN);
        Due.says(29, "(YESTERDAY empty)");
        x.yesterday(63);
        Due.is("whatever YESTERDAY is", x.watch(0), 15);
    }

    private static void tear() {
        Due.says(30, "Nothing is SEEN: how much there was.");
        TomorrowBells x = Due.town("bc0 0;bc0 0;bc0 0;bc0 0;bc0 0;");
        Due.is("of none", x.tear(), 0);
        for (int i = 0; i < 60; i++) {
            x.see(i % 5, true, 0, 1);
        }
        Due.is("of all", x.tear(), 60);
        Due.is("told(11)", x.told(11), 0);
        for (int b = 0; b < 5; b++) {
            Due.is("bell(" + b + ", 4)", x.bell(b, 4), 0);
            Due.is("means all", x.means(b, Due.NONE), 48);
            Due.is("there is room again", x.see(b, false, 0, 1), 1);
        }
        Due.is("of five", x.tear(), 5);
        Due.is("of none again", x.tear(), 0);
        Due.is("a new object's", new TomorrowBells().tear(), 0);
        TomorrowBells y = States.make("lived");
        Due.is("two were seen", y.tear(), 2);
        Due.is("days stay", y.told(6), 3);
        Due.is("THE SEED stays", y.seed(1), 77);
        Due.is("an image stays", y.goBack(1), 1);
        Due.is("the text stays", y.told(5), 12);
    }

    private static void seed() {
        Due.says(31, "THE SEED becomes v (0 .. 2147483647): what it was.");
        TomorrowBells x = new TomorrowBells();
        Due.is("0 at first", x.seed(2147483647), 0);
        Due.is("the greatest", x.seed(0), 2147483647);
        Due.is("the least", x.seed(1), 0);
        Due.is("one", x.seed(1), 1);
        Due.is("the same", x.seed(1), 1);
        Due.says(31, "OUTSIDE.");
        Due.is("seed(-1)", x.seed(-1), Due.OUTSIDE);
        Due.is("seed of the least int", x.seed(Integer.MIN_VALUE), Due.OUTSIDE);
        Due.is("it is as it was", x.seed(2147483647), 1);
        x.drift(1);
        Due.is("drawn from the greatest", x.seed(0), 1043980748);
    }

    private static TomorrowBells kept() {
        TomorrowBells x = Due.town(TWO_TRUE);
        x.yesterday(9);
        x.live(3);
        x.live(2);
        x.deaf(1, true);
        x.may(2);
        x.seed(4711);
        return x;
    }

    private static void change(TomorrowBells x) {
        x.undo(2);
        x.yesterday(17);
        x.deaf(1, false);
        x.deaf(0, true);
        x.may(1);
        x.live(0);
        x.seed(1);
    }

    private static void dueKept(String name, TomorrowBells x) {
        Due.is(name + ": day", x.told(6), 2);
        Due.is(name + ": YESTERDAY", x.told(7), 2);
        Due.is(name + ": HARM", x.told(8), 22);
        Due.is(name + ": DEAF", x.told(9), 2);
        Due.is(name + ": MAY", x.told(10), 2);
        Due.is(name + ": THE SEED", x.seed(4711), 4711);
    }

    private static void keep() {
        Due.says(32, "IMAGE i becomes what is so: 1.");
        TomorrowBells x = kept();
        Due.is("keep(0)", x.keep(0), 1);
        dueKept("keeping changes nothing", x);
        change(x);
        Due.is("keep(0) again", x.keep(0), 1);
        x.undo(1);
        x.goBack(0);
        Due.is("the later one is kept", x.told(10), 1);
        Due.is("of a new object", new TomorrowBells().keep(1), 1);
        Due.says(32, "UNKNOWN.");
        Due.is("keep(2)", x.keep(2), Due.UNKNOWN);
        Due.is("keep(-1)", x.keep(-1), Due.UNKNOWN);
    }

    private static void goBack() {
        Due.says(33, "What is so becomes IMAGE i: 1.");
        Due.says(33, "IMAGES 0, 1 keep YESTERDAY, the days LIVED, HARM, who is DEAF, who MAY, THE SEED.");
        for (int i = 0; i < 2; i++) {
            TomorrowBells x = kept();
            x.keep(i);
            change(x);
            Due.is("goBack(" + i + ")", x.goBack(i), 1);
            dueKept("back", x);
            Due.is("the last day can be undone", x.undo(1), 1);
            Due.is("YESTERDAY is the day ahead", x.told(7), 3);
            Due.is("HARM", x.told(8), 12);
            Due.is("the first can be undone", x.undo(1), 0);
            Due.is("YESTERDAY as it was told", x.told(7), 9);
            Due.is("HARM", x.told(8), 0);
            Due.is("goBack(" + i + ") again", x.goBack(i), 1);
            dueKept("the image stays", x);
        }
        Due.says(33, "UNKNOWN, NOT: it was not kept.");
        TomorrowBells y = kept();
        Due.is("goBack(0)", y.goBack(0), Due.NOT);
        Due.is("goBack(1)", y.goBack(1), Due.NOT);
        Due.is("goBack(2)", y.goBack(2), Due.UNKNOWN);
        Due.is("goBack(-1)", y.goBack(-1), Due.UNKNOWN);
        y.keep(1);
        Due.is("goBack(0), the other is kept", y.goBack(0), Due.NOT);
        Due.is("goBack(1)", y.goBack(1), 1);
        Due.feed(y, "x");
        y.town();
        Due.is("goBack(1) behind a fault", y.goBack(1), 1);
        y.town();
        Due.is("goBack(1) behind a town", y.goBack(1), Due.NOT);
    }

    private static void imagesAreParted() {
        Due.says(33, "IMAGES 0, 1 keep");
        TomorrowBells x = kept();
        x.keep(0);
        change(x);
        x.keep(1);
        x.goBack(0);
        dueKept("image 0", x);
        x.live(0);
        x.goBack(1);
        Due.is("image 1: MAY", x.told(10), 1);
        Due.is("image 1: DEAF", x.told(9), 1);
        Due.is("image 1: THE SEED", x.seed(8), 1);
        x.undo(1);
        Due.is("image 1: YESTERDAY at first", x.told(7), 17);
        x.goBack(0);
        dueKept("image 0 again", x);
        TomorrowBells full = Due.town(TWO_TRUE);
        full.drift(60);
        int harm = full.told(8);
        full.keep(0);
        full.undo(60);
        full.goBack(0);
        Due.is("sixty days are kept", full.told(6), 60);
        Due.is("their harm", full.told(8), harm);
        Due.is("they can be undone", full.undo(60), 0);
        Due.is("to no harm", full.told(8), 0);
        full.keep(1);
        full.drift(60);
        full.goBack(1);
        Due.is("from sixty days back to none", full.told(6), 0);
        Due.is("no harm then", full.told(8), 0);
        Due.is("and on from there", full.live(3), 3);
    }

    private static void whatImagesLeave() {
        Due.says(33, "What is so becomes IMAGE i: 1.");
        TomorrowBells x = kept();
        x.keep(0);
        x.see(0, true, 0, 1);
        Due.feed(x, "bc");
        x.goBack(0);
        Due.is("SEEN is not in an image", x.told(11), 1);
        Due.is("nor is THE TEXT", x.told(5), 2);
        Due.is("nor THE TOWN", x.told(0), 2);
        TomorrowBells y = kept();
        y.see(0, true, 0, 1);
        y.keep(0);
        y.tear();
        y.goBack(0);
        Due.is("what was torn stays so", y.told(11), 0);
        TomorrowBells z = Due.town(TWO_TRUE);
        z.keep(0);
        z.live(0);
        Due.is("yesterday(1) behind a day", z.yesterday(1), Due.NOT);
        z.goBack(0);
        Due.is("yesterday(1), back on day 0", z.yesterday(1), 0);
    }
}
