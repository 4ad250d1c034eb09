/** Promises 27 to 33: what was seen of bells, what it means, the seed, images. */
public final class SeenTest {
    public static void main(String[] args) {
        see();
        means();
        watch();
        tear();
        seed();
        images();
        Due.end();
    }

    private static void see() {
        TomorrowBells x = Due.town("bc0 0;bm1 0;");
        for (int i = 1; i <= 12; i++) {
            Due.is("see", x.see(1, true, 63, 0), i);
        }
        Due.is("see beyond", x.see(1, true, 0, 0), Due.FULL);
        Due.is("see outside beyond", x.see(1, true, 0, 64), Due.OUTSIDE);
        Due.is("see before -1", x.see(0, true, -1, 0), Due.OUTSIDE);
        Due.is("see before 64", x.see(0, true, 64, 0), Due.OUTSIDE);
        Due.is("see day -1", x.see(0, true, 0, -1), Due.OUTSIDE);
        Due.is("see of none", x.see(2, true, 64, 0), Due.UNKNOWN);
        Due.is("see of -1", x.see(-1, true, 0, 0), Due.UNKNOWN);
        Due.is("each bell has its own", x.see(0, true, 0, 63), 1);
        Due.is("told(11)", x.told(11), 13);
        Due.is("bell(0, 4)", x.bell(0, 4), 1);
        Due.is("bell(1, 4)", x.bell(1, 4), 12);
    }

    private static void means() {
        TomorrowBells x = Due.town("bc0 0;by0 0;");
        int[] kinds = {0, 6, 12, 27, 42};
        int[] due = {0, 100, 201, 301, 400};
        for (int k = 0; k < 5; k++) {
            Due.is("means(0, " + kinds[k] + ")", x.means(0, kinds[k]), due[k]);
        }
        Due.is("means(0, 26)", x.means(0, 26), 245);
        Due.is("means(0, 47)", x.means(0, 47), 450);
        Due.is("means(0, 48)", x.means(0, 48), Due.NONE);
        Due.is("means(0, -2)", x.means(0, -2), Due.NONE);
        Due.is("means(0, NONE)", x.means(0, Due.NONE), 48);
        Due.is("means(2, 0)", x.means(2, 0), Due.UNKNOWN);
        Due.is("means(-1, NONE)", x.means(-1, Due.NONE), Due.UNKNOWN);
        // Rang for all, not for nothing: no muffled, none of yesterday; then not for 0 1 2: d with 3 4 5 or so.
        x.see(0, true, 0, 63);
        x.see(0, false, 0, 0);
        Due.is("c, d, k", x.means(0, Due.NONE), 36);
        x.see(0, false, 0, 15);
        Due.is("4, 5, d with one of them, k45", x.means(0, Due.NONE), 2 + 9 + 1);
        Due.is("means(0, 0)", x.means(0, 0), 40);
        Due.is("means(0, 2)", x.means(0, 2), 204);
        Due.is("means(0, 11)", x.means(0, 11), 345);
        x.see(0, true, 0, 32);
        Due.is("means(0, NONE)", x.means(0, Due.NONE), 2);
        Due.is("means(0, 1)", x.means(0, 1), 345);
        x.see(0, false, 0, 32);
        Due.is("nothing fits", x.means(0, Due.NONE), 0);
        Due.is("nothing fits", x.means(0, 0), Due.NONE);
        Due.is("watch of nothing", x.watch(0), Due.NONE);
        x.see(1, true, 2, 0);
        x.see(1, false, 0, 0);
        Due.is("yesterday alone", x.means(1, Due.NONE), 1);
        Due.is("yesterday alone", x.means(1, 0), 410);
    }

    private static void watch() {
        TomorrowBells x = Due.town("bc0 0;bc0 0;");
        Due.is("watch(0)", x.watch(0), 15);
        Due.is("watch(2)", x.watch(2), Due.UNKNOWN);
        Due.is("watch(-1)", x.watch(-1), Due.UNKNOWN);
        x.see(0, true, 0, 63);
        x.see(0, false, 0, 15);
        x.see(0, true, 0, 32);
        Due.is("c5 and k45 are parted by 16", x.watch(0), 16);
        x.see(0, true, 0, 16);
        Due.is("one that is left", x.watch(0), Due.NONE);
        x.see(1, true, 63, 0);
        x.see(1, false, 0, 0);
        Due.is("signs of yesterday ring for no day behind nothing", x.means(1, Due.NONE), 6);
        Due.is("none parts them", x.watch(1), Due.NONE);
    }

    private static void tear() {
        TomorrowBells x = Due.town("bc0 0;bc0 0;");
        Due.is("tear()", x.tear(), 0);
        x.see(0, true, 0, 63);
        x.see(1, true, 0, 63);
        x.see(1, true, 0, 1);
        Due.is("tear()", x.tear(), 3);
        Due.is("tear()", x.tear(), 0);
        Due.is("means(1, NONE)", x.means(1, Due.NONE), 48);
        Due.is("see", x.see(1, true, 0, 0), 1);
    }

    private static void seed() {
        TomorrowBells x = new TomorrowBells();
        Due.is("seed(2147483647)", x.seed(2147483647), 0);
        Due.is("seed(-1)", x.seed(-1), Due.OUTSIDE);
        Due.is("seed(0)", x.seed(0), 2147483647);
        x.seed(2147483647);
        x.drift(1);
        Due.is("the greatest seed, drawn", x.seed(0), 1043980748);
    }

    private static void images() {
        TomorrowBells x = Due.town("bc0 0;g10 0 0 6;r0 0 10;h0 90;");
        Due.is("keep(2)", x.keep(2), Due.UNKNOWN);
        Due.is("keep(-1)", x.keep(-1), Due.UNKNOWN);
        Due.is("goBack(2)", x.goBack(2), Due.UNKNOWN);
        Due.is("goBack(1)", x.goBack(1), Due.NOT);
        x.yesterday(5);
        x.live(1);
        x.live(0);
        x.live(1);
        x.seed(42);
        x.deaf(0, true);
        x.may(0);
        String kept = Due.stateOf(x);
        Due.is("keep(1)", x.keep(1), 1);
        Due.is("goBack(0)", x.goBack(0), Due.NOT);
        x.deaf(0, false);
        x.may(1);
        x.undo(3);
        x.yesterday(9);
        x.drift(7);
        x.see(0, true, 0, 1);
        Due.is("keep(0)", x.keep(0), 1);
        Due.is("goBack(1)", x.goBack(1), 1);
        Due.is("what was seen stays", x.tear(), 1);
        Due.holds("all is as it was kept", kept.equals(Due.stateOf(x)));
        Due.is("undo(1)", x.undo(1), 2);
        Due.is("told(7)", x.told(7), 0);
        Due.is("undo(1)", x.undo(1), 1);
        Due.is("told(7)", x.told(7), 1);
        Due.is("undo(1)", x.undo(1), 0);
        Due.is("told(7)", x.told(7), 5);
        Due.is("told(8)", x.told(8), 0);
        Due.is("goBack(1) again", x.goBack(1), 1);
        Due.holds("an image stays", kept.equals(Due.stateOf(x)));
        Due.is("goBack(0)", x.goBack(0), 1);
        Due.is("told(6)", x.told(6), 7);
        Due.is("told(9)", x.told(9), 0);
        x.undo(7);
        Due.is("told(7)", x.told(7), 9);
    }
}
