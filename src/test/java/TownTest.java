/** Promises 1 to 8: a new object, the text and its faults, what was told. */
public final class TownTest {
    private static final String WHOLE = "bc0 0;bm1 5;bd2 3;bk4 5;by0 0;g20 0 0 6;g30 1 1 0;g15 1 0 1;"
        + "r0 0 20;r1 1 30;s1 3 45;n4 2 1;h0 90;h5 0;";

    public static void main(String[] args) {
        newObject();
        feed();
        faults();
        shorterBehindLonger();
        townBeginsAnew();
        faultLeavesAll();
        told();
        bell();
        group();
        harm();
        Due.end();
    }

    private static void newObject() {
        TomorrowBells x = new TomorrowBells();
        for (int what = 0; what <= 11; what++) {
            Due.is("new told(" + what + ")", x.told(what), 0);
        }
        Due.is("new told(12): the empty day fits", x.told(12), 1);
        Due.is("new harm(63)", x.harm(63), 6);
        Due.is("new fault()", x.fault(), Due.NONE);
        Due.is("new bell(0, 0)", x.bell(0, 0), Due.UNKNOWN);
        Due.is("new group(0, 0)", x.group(0, 0), Due.UNKNOWN);
        Due.is("new comes(0)", x.comes(0), 0);
        Due.is("new comes(1)", x.comes(1), Due.UNKNOWN);
        Due.is("new could(NONE)", x.could(Due.NONE), 1);
        Due.is("new rule(6, 1)", x.rule(6, 1), 0);
        Due.is("new hush(0, 0)", x.hush(0, 0), 0);
        Due.is("new answers(0)", x.answers(0), 0);
        Due.is("new answers(1)", x.answers(1), 1);
        Due.is("new takes(0)", x.takes(0), 0);
        Due.is("new takes(1)", x.takes(1), 1);
        Due.is("new goBack(0)", x.goBack(0), Due.NOT);
        Due.is("new seed", x.seed(5), 0);
    }

    private static void feed() {
        TomorrowBells x = new TomorrowBells();
        Due.is("feed(-1)", x.feed(-1), Due.OUTSIDE);
        Due.is("feed(256)", x.feed(256), Due.OUTSIDE);
        Due.is("told(5)", x.told(5), 0);
        Due.is("feed(0)", x.feed(0), 1);
        Due.is("feed(255)", x.feed(255), 2);
        for (int i = 3; i <= 250; i++) {
            Due.is("feed(32)", x.feed(32), i);
        }
        Due.is("feed beyond", x.feed(32), Due.FULL);
        Due.is("feed outside beyond", x.feed(256), Due.OUTSIDE);
        Due.is("told(5)", x.told(5), 250);
        Due.is("town()", x.town(), -11);
        Due.is("fault()", x.fault(), 0);
        Due.is("feed anew", x.feed(32), 1);
    }

    private static void read(String text, int answer, int fault) {
        TomorrowBells x = new TomorrowBells();
        Due.feed(x, text);
        Due.is("town() of '" + text + "'", x.town(), answer);
        Due.is("fault() of '" + text + "'", x.fault(), fault);
        Due.is("told(5) behind '" + text + "'", x.told(5), 0);
    }

    private static void faults() {
        read("", 0, -1);
        read("   ", 0, -1);
        read(WHOLE, 5, -1);
        read(" b c 0 0 ; b m000 005; ", 2, -1);
        read("x", -11, 0);
        read(" x", -11, 1);
        read(";", -11, 0);
        read("5", -11, 0);
        read("b", -11, 1);
        read("b ", -11, 2);
        read("bC0 0;", -11, 1);
        read("bx9 9;", -11, 1);
        read("bc", -11, 2);
        read("bc0 0", -11, 5);
        read("bc00;", -11, 4);
        read("bc0 0 0;", -11, 6);
        read("bc0 0;;", -11, 6);
        read("bc0 0;\t", -11, 6);
        read("bc-1 0;", -11, 2);
        read("bc0x0;", -11, 3);
        read("bc0 6;", -12, 4);
        read("bc 7 0;", -12, 3);
        read("bc1000 0;", -12, 2);
        read("bc0000 0;", -12, 2);
        read("bc0 12x", -12, 4);
        read("bc9", -12, 2);
        read("bc99999999999999999999 0;", -12, 2);
        read("g1 0 0 0;", -12, 3);
        read("bc0 0;g99 0 6 6;", 1, -1);
        read("bc0 0;g100 0 0 0;", -12, 7);
        read("bc0 0;g0 0 0 0;", -12, 7);
        read("bc0 0;g1 1 0 0;", -12, 9);
        read("bc0 0;g1 0 7 0;", -12, 11);
        read("bc0 0;g1 0 6 7;", -12, 13);
        read("r0 0 999;s5 5 1;", 0, -1);
        read("r0 0 1000;", -12, 5);
        read("s0 6 1;", -12, 3);
        read("s0 0 0;", -12, 5);
        read("n0 12 11;n5 1 0;n0 2 5;", 0, -1);
        read("n0 0 0;", -12, 3);
        read("n6 1 0;", -12, 1);
        read("n0 13 0;", -12, 3);
        read("n0 1 12;", -12, 5);
        read("h0 0;h1 99;", 0, -1);
        read("h0 100;", -12, 3);
        read("h6 0;", -12, 1);
        read("bc0 0;".repeat(5), 5, -1);
        read("bc0 0;".repeat(5) + "b", -13, 30);
        read("bc0 0;" + "g1 0 6 6;".repeat(6), 1, -1);
        read("bc0 0;" + "g1 0 6 6;".repeat(6) + " g1 0 6 6;", -13, 61);
        read("r0 0 1;".repeat(8), 0, -1);
        read("r0 0 1;".repeat(9), -13, 56);
        read("s0 0 1;".repeat(4), 0, -1);
        read("s0 0 1;".repeat(5), -13, 28);
        read("n0 1 0;".repeat(3), 0, -1);
        read("n0 1 0;".repeat(4), -13, 21);
        read("h0 0;h0 1;", -14, 6);
        read("h3 0;h 003", -14, 7);
        read("h0 0;h", -11, 6);
        read("h0 0;h0000 0;", -12, 6);
        read("bc0 0;" + " ".repeat(244), 1, -1);
        read(" ".repeat(244) + "bc0 0;", 1, -1);
        read(" ".repeat(245) + "bc0 0", -11, 250);
        read(" ".repeat(246) + "bc0 ", -11, 250);
        read(" ".repeat(249) + "b", -11, 250);
    }

    /** A shorter text must not be read on into what a longer one left behind. */
    private static void shorterBehindLonger() {
        String[] parts = {"b", "bc", "bc0", "bc0 ", "bc0 0", "bc0 0;g", "bc0 0;g1 0 6 6"};
        for (String part : parts) {
            TomorrowBells x = Due.town("bc0 0;g1 0 6 6;h0 50;");
            Due.feed(x, part);
            Due.is("town() of '" + part + "' behind a longer one", x.town(), -11);
            Due.is("fault() of '" + part + "'", x.fault(), part.length());
        }
        TomorrowBells x = Due.town("bc0 0;bc5 5;");
        Due.feed(x, "bc0 0;");
        Due.is("town() of the first clause alone", x.town(), 1);
    }

    private static void townBeginsAnew() {
        TomorrowBells x = Due.town("bc0 0;g1 0 0 6;g2 0 1 6;h0 0;h1 99;");
        x.yesterday(5);
        x.live(0);
        x.deaf(1, true);
        x.may(1);
        x.see(0, true, 0, 1);
        x.seed(77);
        x.keep(0);
        Due.feed(x, "bc0 0;g9 0 0 6;h2 60;");
        Due.is("town()", x.town(), 1);
        int[] due = {1, 1, 0, 0, 0, 0, 0, 0, 0, 0, 1, 0, 1};
        for (int what = 0; what < due.length; what++) {
            Due.is("anew told(" + what + ")", x.told(what), due[what]);
        }
        Due.is("anew harm(3): untold again", x.harm(3), 2);
        Due.is("anew harm(4)", x.harm(4), 10);
        Due.is("anew goBack(0)", x.goBack(0), Due.NOT);
        Due.is("the seed stays", x.seed(0), 77);
    }

    private static void faultLeavesAll() {
        TomorrowBells x = Due.town(WHOLE);
        x.yesterday(1);
        x.live(0);
        x.deaf(1, true);
        x.may(5);
        x.see(2, true, 0, 1);
        x.keep(1);
        String before = Due.stateOf(x);
        Due.feed(x, "bc0 0;g1 0 0 0;h0 3;h0 4;");
        Due.is("town()", x.town(), -14);
        Due.is("fault()", x.fault(), 21);
        Due.holds("a fault leaves all as it was", before.equals(Due.stateOf(x)));
        Due.is("harm(33)", x.harm(33), -10);
        Due.is("goBack(1)", x.goBack(1), 1);
        Due.is("means(2, NONE)", x.means(2, Due.NONE) < 48 ? 1 : 0, 1);
        x.town();
        Due.is("fault() of the latest town()", x.fault(), Due.NONE);
    }

    private static void told() {
        TomorrowBells x = Due.town(WHOLE);
        x.feed('b');
        int[] due = {5, 3, 2, 1, 1, 1, 0};
        for (int what = 0; what < due.length; what++) {
            Due.is("told(" + what + ")", x.told(what), due[what]);
        }
        Due.is("told(-1)", x.told(-1), Due.OUTSIDE);
        Due.is("told(13)", x.told(13), Due.OUTSIDE);
        x.yesterday(9);
        Due.is("told(7)", x.told(7), 9);
        int day = x.live(0);
        Due.is("told(6)", x.told(6), 1);
        Due.is("told(7)", x.told(7), day);
        Due.is("told(8)", x.told(8), x.harm(day));
        x.deaf(2, true);
        Due.is("told(9)", x.told(9), 4);
        Due.is("told(10)", x.told(10), 7);
        x.may(3);
        Due.is("told(10)", x.told(10), 3);
        x.see(0, true, 0, 0);
        x.see(4, true, 0, 0);
        x.see(4, true, 0, 0);
        Due.is("told(11)", x.told(11), 3);
        Due.is("two days fit", Due.town("bc0 0;g10 0 0 6;r0 0 10;").told(12), 2);
        Due.is("no day fits", Due.town("bc0 0;g10 0 6 0;r0 0 10;").told(12), 0);
    }

    private static void bell() {
        TomorrowBells x = Due.town(WHOLE);
        int[][] due = {{0, 0, 0, 20, 0}, {1, 1, 5, 45, 0}, {2, 2, 3, 0, 0}, {3, 4, 5, 0, 1}, {4, 0, 0, 0, 0}};
        x.see(3, false, 1, 2);
        for (int b = 0; b < 5; b++) {
            for (int what = 0; what < 5; what++) {
                Due.is("bell(" + b + ", " + what + ")", x.bell(b, what), due[b][what]);
            }
        }
        Due.is("bell(5, 0)", x.bell(5, 0), Due.UNKNOWN);
        Due.is("bell(-1, 9)", x.bell(-1, 9), Due.UNKNOWN);
        Due.is("bell(0, 5)", x.bell(0, 5), Due.OUTSIDE);
        Due.is("bell(0, -1)", x.bell(0, -1), Due.OUTSIDE);
    }

    private static void group() {
        TomorrowBells x = Due.town(WHOLE);
        x.deaf(1, true);
        x.may(3);
        int[][] due = {{20, 0, 0, 6, 0, 1}, {30, 1, 1, 0, 1, 1}, {15, 1, 0, 1, 0, 0}};
        for (int g = 0; g < 3; g++) {
            for (int what = 0; what < 6; what++) {
                Due.is("group(" + g + ", " + what + ")", x.group(g, what), due[g][what]);
            }
        }
        Due.is("group(3, 0)", x.group(3, 0), Due.UNKNOWN);
        Due.is("group(-1, 7)", x.group(-1, 7), Due.UNKNOWN);
        Due.is("group(0, 6)", x.group(0, 6), Due.OUTSIDE);
        Due.is("group(0, -1)", x.group(0, -1), Due.OUTSIDE);
    }

    private static void harm() {
        TomorrowBells x = Due.town(WHOLE);
        Due.is("harm(0)", x.harm(0), 0);
        Due.is("harm(1)", x.harm(1), 40);
        Due.is("harm(32)", x.harm(32), -50);
        Due.is("harm(63)", x.harm(63), -6);
        Due.is("harm(-1)", x.harm(-1), Due.OUTSIDE);
        Due.is("harm(64)", x.harm(64), Due.OUTSIDE);
    }
}
