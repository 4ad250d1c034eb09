/** Objects made always alike, in states that lie far apart: a call is tried on one and compared with its untouched twin. */
final class States {
    static final String[] ALL = {"new", "lived", "full"};
    private static final String TEXT = "bc0 0;by1 0;bk2 3;g10 0 0 6;g5 1 1 2;g7 2 3 4;"
        + "r0 0 10;r1 1 5;r4 2 5;s0 3 99;n2 3 1;h0 90;h1 7;";

    private States() {
    }

    static TomorrowBells make(String state) {
        switch (state) {
            case "new": return new TomorrowBells();
            case "lived": return lived();
            default: return full();
        }
    }

    /** Whether a call left all as it was; the object is used up by asking. */
    static boolean isStill(String state, TomorrowBells x) {
        return Everything.of(x).equals(Everything.of(make(state)));
    }

    /** Something of everything: a fault behind it, three days, an image, a text half told. */
    private static TomorrowBells lived() {
        TomorrowBells x = Due.town(TEXT);
        Due.feed(x, "bc0 x");
        x.town();
        x.yesterday(6);
        x.keep(1);
        x.live(0);
        x.live(1);
        x.live(0);
        x.deaf(1, true);
        x.may(3);
        x.see(0, true, 0, 5);
        x.see(2, false, 5, 0);
        x.seed(77);
        Due.feed(x, "bm4 0;g9 0 1");
        return x;
    }

    /** All that has an end is full: the text, the days, what was seen of bell 0. */
    private static TomorrowBells full() {
        TomorrowBells x = Due.town(TEXT);
        x.keep(0);
        x.drift(60);
        x.keep(1);
        x.deaf(2, true);
        for (int i = 0; i < 12; i++) {
            x.see(0, i % 2 == 0, 0, i % 2);
        }
        x.see(1, true, 2, 0);
        Due.feed(x, " ".repeat(238) + "bc1 0;bc2 0;");
        return x;
    }
}
