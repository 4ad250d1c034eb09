/** Promises 20 to 26: what is tried for the day that comes; none of it changes anything. */
public final class TriedTest {
    private static final String TWO_TRUE_BELLS = "bc0 0;bc1 0;g10 0 0 6;g10 1 1 6;r0 0 10;r1 1 10;";

    public static void main(String[] args) {
        rule();
        hush();
        run();
        takes();
        wire();
        answers();
        send();
        nothingChanges();
        Due.end();
    }

    private static void dueRule(TomorrowBells x, int k, int harm, int set) {
        Due.is("rule(" + k + ", 0)", x.rule(k, 0), harm);
        Due.is("rule(" + k + ", 1)", x.rule(k, 1), set);
    }

    /** It comes each day, but is stopped by ten; the bell of yesterday rings. */
    private static void rule() {
        TomorrowBells x = Due.town("by0 0;g5 0 1 6;g5 0 1 6;g10 0 1 6;g10 0 1 6;n0 1 0;s0 1 10;h0 90;");
        x.yesterday(1);
        dueRule(x, 0, 40, 0);
        dueRule(x, 1, 0, 4);
        dueRule(x, 6, 0, 4);
        x.may(0);
        dueRule(x, 1, 0, 4);
        x.deaf(2, true);
        dueRule(x, 1, 0, 8);
        x.deaf(3, true);
        dueRule(x, 1, 40, 0);
        dueRule(x, 2, 0, 3);
        TomorrowBells z = Due.town("by0 0;g10 0 1 6;g10 0 1 6;n0 1 0;s0 1 10;h0 90;");
        z.yesterday(1);
        dueRule(z, 2, 0, 1);
        TomorrowBells all = Due.town("by0 0;g5 0 1 6;g5 0 1 6;n0 1 0;s0 1 10;h0 90;");
        all.yesterday(1);
        dueRule(all, 1, 40, 0);
        dueRule(all, 2, 0, 3);
        TomorrowBells y = Due.town(TWO_TRUE_BELLS + "h0 0;");
        dueRule(y, 2, 0, 0);
        Due.is("rule(-1, 0)", y.rule(-1, 0), Due.OUTSIDE);
        Due.is("rule(7, 0)", y.rule(7, 0), Due.OUTSIDE);
        Due.is("rule(0, 2)", y.rule(0, 2), Due.OUTSIDE);
        Due.is("rule(0, -1)", y.rule(0, -1), Due.OUTSIDE);
        dueRule(Due.town("n0 1 0;h0 0;"), 6, -50, 0);
    }

    private static void dueHush(TomorrowBells x, int h, int many, int set) {
        Due.is("hush(" + h + ", 0)", x.hush(h, 0), many);
        Due.is("hush(" + h + ", 1)", x.hush(h, 1), set);
    }

    private static void hush() {
        TomorrowBells x = Due.town("bc0 0;g6 0 0 6;g6 0 0 6;g12 0 0 6;g4 0 2 6;r0 0 10;n1 1 0;");
        dueHush(x, 0, 2, 5);
        dueHush(x, 1, Due.NONE, Due.NONE);
        dueHush(x, 2, 0, 0);
        x.deaf(2, true);
        dueHush(x, 0, 1, 1);
        x.deaf(1, true);
        dueHush(x, 0, 0, 0);
        Due.is("told(9)", x.told(9), 6);
        Due.is("hush(6, 0)", x.hush(6, 0), Due.OUTSIDE);
        Due.is("hush(-1, 0)", x.hush(-1, 0), Due.OUTSIDE);
        Due.is("hush(0, 2)", x.hush(0, 2), Due.OUTSIDE);
        Due.is("hush(0, -1)", x.hush(0, -1), Due.OUTSIDE);
        dueHush(Due.town("bc0 0;" + "g9 0 0 6;".repeat(6) + "r0 0 9;"), 0, 6, 63);
        dueHush(Due.town("bc0 0;g9 0 6 0;r1 0 9;s1 1 1;g1 0 1 6;"), 1, Due.NONE, Due.NONE);
    }

    private static void run() {
        TomorrowBells x = Due.town("by5 0;g5 0 6 1;g3 0 6 1;g1 0 6 2;r0 1 10;s0 1 12;r1 1 8;r2 1 9;s2 1 9;r3 2 999;r4 5 1;");
        Due.is("run(0, 0)", x.run(0, 0), 2);
        Due.is("run(1, 0)", x.run(1, 0), 2);
        Due.is("run(0, 1)", x.run(0, 1), 0);
        Due.is("run(0, 2): stopped as soon as caused", x.run(0, 2), Due.NONE);
        Due.is("run(2, 3)", x.run(2, 3), 998);
        Due.is("run(0, 3)", x.run(0, 3), Due.NONE);
        Due.is("run(0, 4)", x.run(0, 4), Due.NONE);
        Due.is("run(2, 0)", x.run(2, 0), Due.NONE);
        Due.is("run(3, 6)", x.run(3, 6), Due.UNKNOWN);
        Due.is("run(-1, 0)", x.run(-1, 0), Due.UNKNOWN);
        Due.is("run(0, 6)", x.run(0, 6), Due.OUTSIDE);
        Due.is("run(0, -1)", x.run(0, -1), Due.OUTSIDE);
        TomorrowBells y = Due.town("bc0 0;g10 0 0 0;r0 0 15;");
        Due.is("on all that could come", y.run(0, 0), 5);
        Due.is("not on the one without a ring", Due.town("bc0 0;g10 0 0 6;r0 0 15;").run(0, 0), Due.NONE);
        Due.is("behind a stop: none", Due.town("bc0 0;g10 0 0 0;r0 0 15;s0 0 11;").run(0, 0), Due.NONE);
        TomorrowBells z = Due.town("bc1 0;g10 0 0 0;n0 1 0;s0 1 1;g1 0 1 1;r1 0 30;s0 0 20;");
        Due.is("run(0, 1)", z.run(0, 1), 20);
    }

    private static void dueTakes(String harm, int above, int below) {
        TomorrowBells x = Due.town("bc0 0;g10 0 0 6;r0 0 10;" + harm);
        Due.is("takes(0) " + harm, x.takes(0), above);
        Due.is("takes(1) " + harm, x.takes(1), below);
    }

    private static void takes() {
        dueTakes("", 1, 2);
        dueTakes("h0 50;", 0, 1);
        dueTakes("h0 90;", 20, 1);
        dueTakes("h0 81;", 31, 2);
        dueTakes("h0 0;", -25, 1);
        dueTakes("h0 1;", -49, 2);
        TomorrowBells x = Due.town(TWO_TRUE_BELLS + "h0 52;h1 55;");
        Due.is("takes(0) of four", x.takes(0), 7);
        Due.is("takes(1) of four", x.takes(1), 2);
        Due.is("takes(2)", x.takes(2), Due.OUTSIDE);
        Due.is("takes(-1)", x.takes(-1), Due.OUTSIDE);
    }

    private static void wire() {
        TomorrowBells x = Due.town(TWO_TRUE_BELLS);
        Due.is("wire(0, 1)", x.wire(0, 1), 2);
        Due.is("wire(1, 0)", x.wire(1, 0), 2);
        Due.is("wire(0, 0)", x.wire(0, 0), Due.UNKNOWN);
        Due.is("wire(0, 2)", x.wire(0, 2), Due.UNKNOWN);
        Due.is("wire(-1, 0)", x.wire(-1, 0), Due.UNKNOWN);
        Due.is("told(12)", x.told(12), 4);
        TomorrowBells y = Due.town("bc0 0;bm0 0;by1 0;g10 0 0 6;r0 0 10;");
        Due.is("as a bell that rings if not", y.wire(0, 1), 0);
        Due.is("the other way", y.wire(1, 0), 2);
        Due.is("as one of yesterday, silent", y.wire(0, 2), 1);
        y.yesterday(2);
        Due.is("as one of yesterday, ringing", y.wire(0, 2), 1);
    }

    private static void dueAnswers(TomorrowBells x, int lead, int loop) {
        Due.is("answers(0)", x.answers(0), lead);
        Due.is("answers(1)", x.answers(1), loop);
    }

    /** It comes, if it did not come yesterday. */
    private static void answers() {
        TomorrowBells x = Due.town("by0 0;g10 0 6 0;r0 0 10;");
        dueAnswers(x, 0, 2);
        x.yesterday(1);
        dueAnswers(x, 0, 2);
        x.yesterday(2);
        dueAnswers(x, 1, 2);
        x.live(0);
        dueAnswers(x, 0, 2);
        Due.is("answers(2)", x.answers(2), Due.OUTSIDE);
        Due.is("answers(-1)", x.answers(-1), Due.OUTSIDE);
        dueAnswers(Due.town("by0 0;g10 0 6 0;r0 0 10;n1 3 0;"), 0, 6);
        TomorrowBells y = Due.town("n0 11 0;n1 10 0;n2 9 11;");
        dueAnswers(y, 0, 990);
        y.yesterday(4);
        dueAnswers(y, 1, 990);
        y.live(0);
        dueAnswers(y, 0, 990);
        Due.is("a lead with days that count", leadBehind("by0 0;by1 0;by2 0;g1 0 1 6;g1 1 2 6;g1 2 2 6;r1 1 1;r2 2 1;n5 3 1;", 1), 2);
        Due.is("a lead", leadBehind("by0 0;by1 0;by2 0;g1 0 1 6;g1 1 2 6;g1 2 2 6;r1 1 1;r2 2 1;", 1), 2);
    }

    private static int leadBehind(String text, int yesterday) {
        TomorrowBells x = Due.town(text);
        x.yesterday(yesterday);
        return x.answers(0);
    }

    private static void send() {
        TomorrowBells x = Due.town(TWO_TRUE_BELLS + "n5 1 0;");
        int[][] due = {{0, 0, 0}, {0, 0, 1}, {1, 0, 1}, {1, 1, 1}, {1, 1, 2}, {1, 1, 3}, {2, 1, 3}, {2, 2, 3}};
        for (int n = 0; n < due.length; n++) {
            Due.is("send(" + n + ", 0)", x.send(n, 0), due[n][0]);
            Due.is("send(" + n + ", 1)", x.send(n, 1), due[n][1]);
            Due.is("send(" + n + ", 2)", x.send(n, 2), 0);
            Due.is("send(" + n + ", 5)", x.send(n, 5), due[n][2]);
        }
        Due.is("send(99, 5)", x.send(99, 5), 49);
        Due.is("send(99, 0)", x.send(99, 0), 25);
        Due.is("send(-1, 0)", x.send(-1, 0), Due.OUTSIDE);
        Due.is("send(100, 0)", x.send(100, 0), Due.OUTSIDE);
        Due.is("send(0, 6)", x.send(0, 6), Due.OUTSIDE);
        Due.is("send(0, -1)", x.send(0, -1), Due.OUTSIDE);
        Due.is("nothing could come", new TomorrowBells().send(9, 0), 0);
    }

    private static void nothingChanges() {
        TomorrowBells x = Due.town(TWO_TRUE_BELLS + "n2 5 1;h0 90;");
        x.yesterday(9);
        x.live(1);
        x.deaf(1, true);
        x.may(2);
        x.see(1, true, 3, 4);
        x.seed(99);
        String before = Due.stateOf(x);
        x.rule(2, 1);
        x.hush(0, 1);
        x.run(0, 0);
        x.takes(0);
        x.wire(0, 1);
        x.answers(0);
        x.send(5, 1);
        x.could(0);
        x.sure(1);
        x.comes(3);
        x.done(3, 0);
        x.means(1, 0);
        x.watch(1);
        x.live(9);
        x.undo(2);
        x.yesterday(0);
        x.deaf(2, true);
        x.may(4);
        x.drift(60);
        x.see(1, true, 64, 0);
        x.seed(-1);
        x.keep(2);
        x.goBack(0);
        x.feed(256);
        Due.holds("nothing changes by what is tried or refused", before.equals(Due.stateOf(x)));
    }
}
