import java.util.function.ToIntFunction;

/** The edges of promises 20 to 26: what is tried. */
final class TriedEdges {
    private static final String FIVE_TRUE = "bc4 0;bc3 0;bc2 0;bc1 0;bc0 0;g1 0 0 6;g1 1 1 6;g1 2 2 6;g1 3 3 6;g1 4 4 6;"
        + "r4 0 1;r3 1 1;r2 2 1;r1 3 1;r0 4 1;";
    /** Nothing, 0 alone or 1 alone could come: both together stop 0. */
    private static final String THREE = "bc0 0;bc1 0;g5 0 0 6;g5 1 1 6;g5 0 2 6;g5 1 2 6;r0 0 5;r1 1 5;s0 2 10;";
    private static final String FALSE = "bc0 0;g10 0 6 0;r0 0 10;";

    private TriedEdges() {
    }

    static void check() {
        nothingChanges();
        rule();
        ruleByTheGreatest();
        ruleWhoMayAndWhoIsDeaf();
        hush();
        hushBesideTheDeaf();
        run();
        runOnAll();
        takes();
        wire();
        answers();
        answersByTurns();
        answersInOrder();
        send();
        sendNobody();
    }

    private static void unchanged(int promise, String call, ToIntFunction<TomorrowBells> on) {
        Due.says(promise, "TRIED for the day that comes; nothing changes by it.");
        for (String state : States.ALL) {
            TomorrowBells x = States.make(state);
            int first = on.applyAsInt(x);
            Due.is(state + " " + call + " once more", on.applyAsInt(x), first);
            Due.holds(state + " " + call + " changes nothing", States.isStill(state, x));
        }
    }

    private static void nothingChanges() {
        for (int i = 0; i < 2; i++) {
            int what = i;
            unchanged(12, "could(" + (what - 1) + ")", x -> x.could(what - 1));
            unchanged(13, "sure(" + what + ")", x -> x.sure(what));
            unchanged(20, "rule(6, " + what + ")", x -> x.rule(6, what));
            unchanged(21, "hush(0, " + what + ")", x -> x.hush(0, what));
            unchanged(21, "hush(4, " + what + ")", x -> x.hush(4, what));
            unchanged(22, "run(" + what + ", 0)", x -> x.run(what, 0));
            unchanged(23, "takes(" + what + ")", x -> x.takes(what));
            unchanged(24, "wire(" + what + ", 2)", x -> x.wire(what, 2));
            unchanged(25, "answers(" + what + ")", x -> x.answers(what));
            unchanged(26, "send(99, " + what + ")", x -> x.send(99, what));
            unchanged(28, "means(0, " + (what - 1) + ")", x -> x.means(0, what - 1));
            unchanged(29, "watch(" + what + ")", x -> x.watch(what));
        }
        unchanged(9, "ring(63)", x -> x.ring(63));
        unchanged(10, "done(1, 0)", x -> x.done(1, 0));
        unchanged(11, "comes(0)", x -> x.comes(0));
        unchanged(14, "live(99)", x -> x.live(99));
        unchanged(15, "undo(0)", x -> x.undo(0) * 0);
    }

    private static void dueRule(String name, TomorrowBells x, int k, int harm, int set) {
        Due.is(name + ": rule(" + k + ", 0)", x.rule(k, 0), harm);
        Due.is(name + ": rule(" + k + ", 1)", x.rule(k, 1), set);
    }

    /** It comes of itself, a harm of 40; the bell of yesterday rings, and who may act can stop it, if they are enough. */
    private static TomorrowBells stoppers(int needed, int... people) {
        StringBuilder text = new StringBuilder("by0 0;");
        for (int n : people) {
            text.append("g").append(n).append(" 0 1 6;");
        }
        TomorrowBells x = Due.town(text + "n0 1 0;s0 1 " + needed + ";h0 90;");
        x.yesterday(1);
        return x;
    }

    private static void rule() {
        Due.says(20, "LEAST HARM: what = 0 the HARM, 1 the SET.");
        Due.says(20, "LEAST HARM by k who MAY act (k 0 .. 6):");
        dueRule("nobody at all", new TomorrowBells(), 0, 0, 0);
        dueRule("nobody at all", new TomorrowBells(), 6, 0, 0);
        TomorrowBells six = stoppers(60, 10, 10, 10, 10, 10, 10);
        dueRule("five of six are too few", six, 5, 40, 0);
        dueRule("all six", six, 6, 0, 63);
        dueRule("none", stoppers(10, 10), 0, 40, 0);
        Due.says(20, "of all SETS of k GROUPS at most that MAY alone,");
        dueRule("more than there are", stoppers(10, 10), 6, 0, 1);
        dueRule("fewer are enough", stoppers(10, 5, 10, 5), 3, 0, 2);
        dueRule("one is too few", stoppers(10, 5, 5, 5), 1, 40, 0);
        dueRule("one alone, behind sets that are too great", stoppers(10, 5, 5, 10), 1, 0, 4);
        dueRule("the last alone", stoppers(10, 1, 1, 1, 1, 1, 10), 1, 0, 32);
        Due.says(20, "of like ones the fewest GROUPS,");
        dueRule("one of a greater number, not two", stoppers(10, 5, 5, 10), 2, 0, 4);
        dueRule("none, if nothing is won", stoppers(99, 5, 5, 10), 3, 40, 0);
        Due.says(20, "then the least SET.");
        dueRule("the first two", stoppers(10, 5, 5, 5, 5), 2, 0, 3);
        dueRule("the first of two", stoppers(10, 5, 10, 10), 1, 0, 2);
        dueRule("the least of the sets that do", stoppers(12, 5, 6, 6, 7), 2, 0, 6);
        Due.says(20, "OUTSIDE.");
        Due.is("rule(7, 0)", six.rule(7, 0), Due.OUTSIDE);
        Due.is("rule(-1, 0)", six.rule(-1, 0), Due.OUTSIDE);
        Due.is("rule(6, 2)", six.rule(6, 2), Due.OUTSIDE);
        Due.is("rule(6, -1)", six.rule(6, -1), Due.OUTSIDE);
    }

    /** If nobody acts, nothing or 0 (40) could come; if group 1 acts, 1 (30) alone. */
    private static void ruleByTheGreatest() {
        Due.says(20, "that by which the greatest HARM that COULD COME is least;");
        TomorrowBells x = Due.town("bm0 0;by2 0;g10 0 6 0;g10 1 1 6;r0 0 10;r1 1 10;s0 1 10;h0 90;h1 80;");
        x.yesterday(4);
        x.may(0);
        Due.is("two could come", x.could(Due.NONE), 2);
        x.may(2);
        Due.is("one could come", x.could(Due.NONE), 1);
        dueRule("the greatest counts, not the mean or the least", x, 1, 30, 2);
        dueRule("none", x, 0, 40, 0);
        String all = "bc0 0;g1 0 0 0;r0 0 1;r1 0 1;r2 0 1;r3 0 1;r4 0 1;r5 0 1;";
        dueRule("the least harm there is", Due.town(all + "h0 0;h1 0;h2 0;h3 0;h4 0;h5 0;"), 6, -300, 0);
        dueRule("the greatest harm there is", Due.town(all + "h0 99;h1 99;h2 99;h3 99;h4 99;h5 99;"), 6, 294, 0);
        dueRule("below nothing", Due.town("n0 1 0;h0 49;"), 3, -1, 0);
        dueRule("a silent one counts too", Due.town(FALSE + "h0 70;"), 1, 20, 0);
        // What a muffled bell is silent on is done: harms 0, 10, -10, 0 could come, whoever may act.
        TomorrowBells four = Due.town("bm0 0;bm1 0;g1 0 6 0;g1 1 6 1;r0 0 1;r1 1 1;h0 60;h1 40;");
        Due.is("four could come", four.could(Due.NONE), 4);
        dueRule("the greatest, not the last or all together", four, 2, 10, 0);
        TomorrowBells good = Due.town("by0 0;g9 0 1 6;r1 1 9;h1 20;");
        good.yesterday(1);
        dueRule("what is good may be caused", good, 1, -30, 1);
    }

    private static void ruleWhoMayAndWhoIsDeaf() {
        Due.says(20, "of all SETS of k GROUPS at most that MAY alone,");
        TomorrowBells x = stoppers(10, 10, 10);
        x.may(0);
        dueRule("whoever may now", x, 1, 0, 1);
        x.may(2);
        dueRule("whoever may now", x, 1, 0, 1);
        x.deaf(0, true);
        dueRule("who is deaf stays so", x, 2, 0, 2);
        x.deaf(1, true);
        dueRule("all are deaf", x, 2, 40, 0);
        Due.is("who may is as it was", x.told(10), 2);
    }

    private static void dueHush(String name, TomorrowBells x, int h, int many, int set) {
        Due.is(name + ": hush(" + h + ", 0)", x.hush(h, 0), many);
        Due.is(name + ": hush(" + h + ", 1)", x.hush(h, 1), set);
    }

    /** It comes true, if so many run who hear of it. */
    private static TomorrowBells runners(int needed, int... people) {
        StringBuilder text = new StringBuilder("bc0 0;");
        for (int n : people) {
            text.append("g").append(n).append(" 0 0 6;");
        }
        return Due.town(text + "r0 0 " + needed + ";");
    }

    private static void hush() {
        Due.says(21, "DEAF: what = 0 how many, 1 the SET; NONE.");
        Due.says(21, "DEAF: the fewest GROUPS that must be DEAF");
        dueHush("nobody must", runners(10, 9), 0, 0, 0);
        dueHush("no group at all", new TomorrowBells(), 5, 0, 0);
        dueHush("one must", runners(10, 10), 0, 1, 1);
        dueHush("all six must", runners(9, 9, 9, 9, 9, 9, 9), 0, 6, 63);
        dueHush("one of a greater number, not two", runners(15, 5, 5, 10), 0, 1, 4);
        dueHush("another never comes", runners(10, 10), 5, 0, 0);
        Due.says(21, ", so that H does not come on any that COULD COME;");
        dueHush("it comes of itself", Due.town("bc0 0;g1 0 6 6;n3 1 0;"), 3, Due.NONE, Due.NONE);
        dueHush("it comes of itself another day", Due.town("bc0 0;g1 0 6 6;n3 2 1;"), 3, 0, 0);
        dueHush("the deaf cause it", Due.town(FALSE), 0, Due.NONE, Due.NONE);
        TomorrowBells stop = Due.town("by0 0;g5 0 6 2;n0 1 0;s0 2 5;");
        stop.yesterday(1);
        dueHush("the deaf stop it", stop, 0, 1, 1);
        dueHush("on one of two that could come", runners(10, 4, 6), 0, 1, 1);
        Due.says(21, "of like ones the least SET; NONE.");
        dueHush("the first", runners(11, 4, 4, 4), 0, 1, 1);
        dueHush("the first that does", runners(10, 4, 5, 5), 0, 1, 2);
        dueHush("the first two", runners(6, 4, 4, 4, 1), 0, 2, 3);
        dueHush("the least set of those that do", runners(10, 6, 6, 12), 0, 2, 5);
        Due.says(21, "OUTSIDE.");
        TomorrowBells x = runners(10, 10);
        Due.is("hush(6, 0)", x.hush(6, 0), Due.OUTSIDE);
        Due.is("hush(-1, 0)", x.hush(-1, 0), Due.OUTSIDE);
        Due.is("hush(0, 2)", x.hush(0, 2), Due.OUTSIDE);
        Due.is("hush(0, -1)", x.hush(0, -1), Due.OUTSIDE);
    }

    private static void hushBesideTheDeaf() {
        Due.says(21, "(those that are so already count not)");
        TomorrowBells x = runners(10, 6, 6, 12);
        x.deaf(2, true);
        dueHush("beside the third", x, 0, 1, 1);
        x.deaf(0, true);
        dueHush("beside the first and third", x, 0, 0, 0);
        x.deaf(2, false);
        dueHush("beside the first", x, 0, 1, 4);
        Due.is("who is deaf is as it was", x.told(9), 1);
        TomorrowBells all = Due.town("bc0 0;g1 0 6 6;n3 1 0;");
        all.deaf(0, true);
        dueHush("all are deaf, and it comes", all, 3, Due.NONE, Due.NONE);
        TomorrowBells none = runners(10, 10);
        none.may(0);
        dueHush("who may not act need not be deaf", none, 0, 0, 0);
    }

    private static void run() {
        Due.says(22, "RUN; NONE.");
        Due.says(22, "RUN: the fewest PEOPLE more (0 .. 999) in a GROUP,");
        String one = "bc0 0;g1 0 3 3;";
        Due.is("none more", Due.town(one + "r0 3 1;").run(0, 0), 0);
        Due.is("one more", Due.town(one + "r0 3 2;").run(0, 0), 1);
        Due.is("the most that can be wanted", Due.town(one + "r0 3 999;").run(0, 0), 998);
        Due.is("it comes of itself", Due.town("bc0 0;g1 0 6 6;n0 1 0;").run(0, 0), 0);
        String two = "bc0 0;g1 0 3 3;g9 0 3 3;g7 0 6 2;r0 3 100;";
        Due.is("with others: the first", Due.town(two).run(0, 0), 90);
        Due.is("with others: the second", Due.town(two).run(1, 0), 90);
        Due.is("one who does another deed", Due.town(two).run(2, 0), Due.NONE);
        Due.is("one who does none", Due.town("bc0 0;g9 0 6 6;r0 3 1;").run(0, 0), Due.NONE);
        Due.is("nothing causes it", Due.town(one).run(0, 5), Due.NONE);
        Due.is("the fewest of two causes", Due.town(one + "r0 3 20;r0 3 10;").run(0, 0), 9);
        Due.is("stopped as soon", Due.town(one + "r0 3 10;s0 3 10;").run(0, 0), Due.NONE);
        Due.is("stopped sooner", Due.town(one + "r0 3 10;s0 3 9;").run(0, 0), Due.NONE);
        Due.is("stopped one later", Due.town(one + "r0 3 10;s0 3 11;").run(0, 0), 9);
        Due.is("no more in another group, who would stop it", Due.town(one + "g1 0 4 4;r0 3 10;s0 4 5;").run(0, 0), 9);
        Due.says(22, "UNKNOWN, OUTSIDE (h).");
        TomorrowBells x = Due.town(one);
        Due.is("run(1, 0)", x.run(1, 0), Due.UNKNOWN);
        Due.is("run(-1, 0)", x.run(-1, 0), Due.UNKNOWN);
        Due.is("run(0, 6)", x.run(0, 6), Due.OUTSIDE);
        Due.is("run(0, -1)", x.run(0, -1), Due.OUTSIDE);
        Due.is("no one is more behind it", x.group(0, 0), 1);
    }

    private static void runOnAll() {
        Due.says(22, "so that H comes on all that COULD COME; NONE.");
        Due.is("not on the empty one", Due.town("bc0 0;g10 0 0 6;r0 0 10;").run(0, 0), Due.NONE);
        Due.is("on the silent one", Due.town(FALSE).run(0, 0), 0);
        Due.is("on the silent one, with more", Due.town("bc0 0;g7 0 6 0;r0 0 10;").run(0, 0), 3);
        TomorrowBells rung = Due.town("bc1 0;g10 0 0 0;g5 0 3 6;r1 0 30;r0 3 5;");
        Due.is("by another bell that rings then", rung.run(0, 0), 20);
        Due.is("by the group that hears it: never", rung.run(1, 0), Due.NONE);
        TomorrowBells y = Due.town("by0 0;g5 0 1 2;r3 1 9;r4 2 8;");
        Due.is("silent: by E", y.run(0, 4), 3);
        Due.is("silent: not by D", y.run(0, 3), Due.NONE);
        y.yesterday(1);
        Due.is("rung: by D", y.run(0, 3), 4);
        Due.is("rung: not by E", y.run(0, 4), Due.NONE);
        y.may(0);
        Due.is("it may not act", y.run(0, 3), Due.NONE);
        y.deaf(0, true);
        Due.is("it is deaf: by E", y.run(0, 4), 3);
        Due.is("it is deaf: not by D", y.run(0, 3), Due.NONE);
        TomorrowBells hushed = Due.town("bc1 0;g1 0 3 3;g5 0 6 4;n1 1 0;s1 3 20;r0 4 5;");
        Due.is("by a bell that is silent, as enough stop what it tells", hushed.run(0, 0), 19);
        TomorrowBells full = Due.town("bc0 0;g1 0 0 0;" + "r0 0 100;".repeat(8) + "s5 0 1;".repeat(4));
        Due.is("with all causes and stops there may be", full.run(0, 0), 99);
        TomorrowBells away = Due.town("bc0 0;bm1 0;g10 0 0 6;g8 1 0 0;r0 0 18;");
        Due.is("it could come", away.could(1), 1);
        Due.is("but the empty one must go", away.run(1, 0), 10);
    }

    private static void dueTakes(String text, int above, int below) {
        TomorrowBells x = Due.town(text);
        Due.is("takes(0) of " + text, x.takes(0), above);
        Due.is("takes(1) of " + text, x.takes(1), below);
    }

    private static void takes() {
        Due.says(23, "TAKES: part = 0 above, 1 below.");
        Due.says(23, "TAKES: the mean HARM of all that COULD COME, as a part in lowest terms (above may be below 0).");
        dueTakes("", 0, 1);
        dueTakes("n0 1 0;h0 99;", 49, 1);
        dueTakes("n0 1 0;h0 0;", -50, 1);
        dueTakes(FALSE, 1, 1);
        dueTakes(THREE, 2, 3);
        dueTakes(THREE + "h0 0;", -49, 3);
        dueTakes(THREE + "h0 0;h1 1;", -33, 1);
        dueTakes(THREE + "h0 0;h1 0;", -100, 3);
        dueTakes(THREE + "h0 52;h1 51;", 1, 1);
        dueTakes(THREE + "h0 60;h1 40;", 0, 1);
        dueTakes(FIVE_TRUE, 5, 2);
        dueTakes(FIVE_TRUE + "h0 50;", 2, 1);
        dueTakes(FIVE_TRUE + "n5 1 0;h5 0;", -95, 2);
        dueTakes("bc0 0;g1 0 0 0;r0 0 1;r1 0 1;r2 0 1;r3 0 1;r4 0 1;r5 0 1;h0 0;h1 0;h2 0;h3 0;h4 0;h5 0;", -300, 1);
        Due.says(23, "OUTSIDE.");
        Due.is("takes(2)", new TomorrowBells().takes(2), Due.OUTSIDE);
        Due.is("takes(-1)", new TomorrowBells().takes(-1), Due.OUTSIDE);
    }

    private static void wire() {
        Due.says(24, "WIRE.");
        Due.says(24, "WIRE: if BELL a rings just as BELL b does (whatever its sign is): how many DAYS FIT then.");
        TomorrowBells five = Due.town(FIVE_TRUE);
        Due.is("0 just if 4", five.wire(0, 4), 16);
        Due.is("4 just if 0", five.wire(4, 0), 16);
        TomorrowBells x = Due.town("bc0 0;bm0 0;by1 0;g10 0 0 6;r0 0 10;");
        Due.is("none fits: not the silent one", x.wire(0, 1), 0);
        Due.is("the other way both fit", x.wire(1, 0), 2);
        Due.is("as one that is silent", x.wire(0, 2), 1);
        x.yesterday(2);
        Due.is("as one that rings", x.wire(0, 2), 1);
        Due.is("one of yesterday as a clean one", x.wire(2, 0), 2);
        TomorrowBells y = Due.town("bc0 0;bm5 0;g10 0 6 0;r0 0 10;");
        Due.is("none fits without", y.told(12), 0);
        Due.is("as a muffled one that rings: it does not come", y.wire(0, 1), 1);
        TomorrowBells both = Due.town("bc0 0;bc1 0;g10 0 0 6;g10 1 1 6;r0 0 10;r1 1 10;");
        Due.is("both or none", both.wire(0, 1), 2);
        TomorrowBells heard = Due.town("bc0 0;bc1 0;g10 1 0 6;r0 0 10;n1 1 0;");
        Due.is("b rings by its own sign still", heard.wire(0, 1), 1);
        Due.is("a that is heard rings as b", heard.wire(1, 0), 2);
        Due.says(24, "UNKNOWN (one twice).");
        Due.is("wire(0, 0)", both.wire(0, 0), Due.UNKNOWN);
        Due.is("wire(1, 1)", both.wire(1, 1), Due.UNKNOWN);
        Due.is("wire(0, 2)", both.wire(0, 2), Due.UNKNOWN);
        Due.is("wire(2, 0)", both.wire(2, 0), Due.UNKNOWN);
        Due.is("wire(2, 2)", both.wire(2, 2), Due.UNKNOWN);
        Due.is("wire(0, -1)", both.wire(0, -1), Due.UNKNOWN);
        Due.is("wire(-1, 0)", both.wire(-1, 0), Due.UNKNOWN);
    }

    private static void dueAnswers(String text, int yesterday, int lead, int loop) {
        TomorrowBells x = Due.town(text);
        x.yesterday(yesterday);
        dueAnswers("behind " + yesterday + " " + text, x, lead, loop);
    }

    private static void dueAnswers(String name, TomorrowBells x, int lead, int loop) {
        Due.is("answers(0) " + name, x.answers(0), lead);
        Due.is("answers(1) " + name, x.answers(1), loop);
    }

    private static void answers() {
        Due.says(25, "ANSWERS: what = 0 LEAD, 1 LOOP.");
        Due.says(25, "ANSWERS: if on each day that comes the first (as a number) that COULD COME is so:");
        dueAnswers("", 0, 0, 1);
        dueAnswers("bc0 0;g10 0 0 6;r0 0 10;", 0, 0, 1);
        dueAnswers("bc0 0;g10 0 0 6;r0 0 10;", 1, 1, 1);
        dueAnswers(FALSE, 0, 1, 1);
        dueAnswers(FALSE, 1, 0, 1);
        Due.says(25, "LEAD: how many days go by till one stands as it stood");
        String chain = "by0 0;by1 0;by2 0;by3 0;by4 0;g1 0 0 6;g1 1 1 6;g1 2 2 6;g1 3 3 6;g1 4 4 6;"
            + "r1 0 1;r2 1 1;r3 2 1;r4 3 1;r5 4 1;";
        int[] leads = {0, 6, 5, 6, 4};
        for (int day = 0; day < leads.length; day++) {
            dueAnswers(chain, day, leads[day], 1);
        }
        dueAnswers(chain, 32, 1, 1);
        TomorrowBells lived = Due.town(chain);
        lived.yesterday(1);
        lived.live(0);
        lived.live(0);
        dueAnswers("two days later", lived, 4, 1);
        Due.says(25, ", LOOP: in how many days it stands so again.");
        String round = chain + "r0 4 1;";
        dueAnswers(round, 0, 0, 1);
        dueAnswers(round, 1, 1, 5);
        dueAnswers(round, 33, 0, 5);
        dueAnswers(round, 31, 1, 1);
        dueAnswers(round, 63, 0, 1);
        Due.says(25, "OUTSIDE.");
        Due.is("answers(2)", new TomorrowBells().answers(2), Due.OUTSIDE);
        Due.is("answers(-1)", new TomorrowBells().answers(-1), Due.OUTSIDE);
    }

    private static void answersByTurns() {
        Due.says(25, "(YESTERDAY and the day, left over by the least number by which all Y leave nothing over)");
        dueAnswers("n0 1 0;", 0, 1, 1);
        dueAnswers("n0 1 0;", 1, 0, 1);
        dueAnswers("n0 12 0;", 0, 0, 12);
        dueAnswers("n0 4 0;n1 6 0;", 0, 0, 12);
        dueAnswers("n0 4 0;n1 6 0;n2 8 0;", 0, 0, 24);
        dueAnswers("n0 11 0;n1 10 0;n2 9 0;", 0, 0, 990);
        dueAnswers("n0 11 0;n1 10 0;n2 9 0;", 1, 1, 990);
        dueAnswers("n0 7 11;", 0, 0, 7);
        dueAnswers("n0 7 11;", 1, 1, 7);
        dueAnswers("n0 2 0;n0 2 1;", 0, 1, 2);
        String other = "by0 0;g10 0 6 0;r0 0 10;";
        dueAnswers(other, 0, 0, 2);
        dueAnswers(other, 2, 1, 2);
        dueAnswers(other + "n1 4 1;", 0, 0, 4);
        dueAnswers(other + "n1 3 1;", 0, 0, 6);
        dueAnswers(other + "n1 3 2;", 0, 1, 6);
        String round = "by0 0;by1 0;by2 0;by3 0;by4 0;g1 0 0 6;g1 1 1 6;g1 2 2 6;g1 3 3 6;g1 4 4 6;"
            + "r1 0 1;r2 1 1;r3 2 1;r4 3 1;r0 4 1;n5 12 0;n5 11 0;n5 7 0;";
        dueAnswers(round, 1, 0, 4620);
        dueAnswers(round, 33, 1, 4620);
        dueAnswers(round, 0, 0, 924);
        TomorrowBells lived = Due.town("n0 5 0;");
        lived.yesterday(2);
        dueAnswers("on day 0", lived, 1, 5);
        lived.drift(1);
        dueAnswers("on day 1, behind what comes on day 0", lived, 0, 5);
        lived.drift(59);
        dueAnswers("on day 60", lived, 0, 5);
    }

    /** What stands hangs on what came on which day: days go on in their order, beyond a turn too. */
    private static void answersInOrder() {
        Due.says(25, "LEAD: how many days go by till one stands as it stood");
        String turnsOver = "by0 0;by2 0;g5 0 0 6;g5 1 0 6;r0 0 5;s0 0 10;n2 3 1;";
        dueAnswers(turnsOver, 0, 0, 6);
        dueAnswers(turnsOver, 4, 1, 6);
        String endsOnce = "by0 0;by2 0;g5 0 0 6;g5 1 1 6;r0 0 5;s0 1 5;n2 5 3;";
        dueAnswers(endsOnce, 1, 5, 5);
        dueAnswers(endsOnce, 0, 0, 5);
        dueAnswers(endsOnce, 4, 1, 5);
        String endsByTurns = "by0 0;by1 0;by3 0;by4 0;by5 0;g5 0 0 1;g5 1 2 6;g5 2 1 6;g5 3 1 6;g5 4 1 6;"
            + "r0 0 5;r1 2 5;s0 1 15;s1 1 20;n3 11 10;n4 10 9;n5 9 8;";
        dueAnswers(endsByTurns, 3, 1981, 990);
        dueAnswers(endsByTurns, 1, 991, 990);
        dueAnswers(endsByTurns, 56, 0, 990);
    }

    private static void dueSend(String name, TomorrowBells x, int n, int... due) {
        for (int h = 0; h < 6; h++) {
            Due.is(name + ": send(" + n + ", " + h + ")", x.send(n, h), due[h]);
        }
    }

    private static void send() {
        Due.says(26, "SEND: helpers of a HAPPENING.");
        Due.says(26, "SEND: of n helpers (0 .. 99) each HAPPENING has as many as its share: of all that COULD COME those on which"
            + " it comes, times n, parted by all such numbers together");
        TomorrowBells one = Due.town("n4 1 0;");
        dueSend("all to the only one", one, 0, 0, 0, 0, 0, 0, 0);
        dueSend("all to the only one", one, 1, 0, 0, 0, 0, 1, 0);
        dueSend("all to the only one", one, 99, 0, 0, 0, 0, 99, 0);
        TomorrowBells upper = Due.town(FIVE_TRUE + "n5 1 0;");
        dueSend("one comes twice as often", upper, 7, 1, 1, 1, 1, 1, 2);
        dueSend("the silent one", Due.town(FALSE), 5, 5, 0, 0, 0, 0, 0);
        dueSend("nobody for the empty day", runners(10, 10), 7, 7, 0, 0, 0, 0, 0);
        Due.says(26, "; who is left goes one by one to those with the greatest rest");
        dueSend("greatest rest at the last", upper, 1, 0, 0, 0, 0, 0, 1);
        dueSend("greatest rest at the last", upper, 99, 14, 14, 14, 14, 14, 29);
        dueSend("greatest rest is not where it comes most", upper, 4, 1, 1, 1, 0, 0, 1);
        Due.says(26, "(of like ones the least H).");
        dueSend("one, then the first ones", upper, 3, 1, 1, 0, 0, 0, 1);
        TomorrowBells five = Due.town(FIVE_TRUE);
        dueSend("the first four", five, 99, 20, 20, 20, 20, 19, 0);
        dueSend("the first", five, 1, 1, 0, 0, 0, 0, 0);
        dueSend("each one", five, 5, 1, 1, 1, 1, 1, 0);
        dueSend("each one, then the first", five, 6, 2, 1, 1, 1, 1, 0);
        dueSend("two alike", Due.town(THREE), 3, 2, 1, 0, 0, 0, 0);
        TomorrowBells all = Due.town("bc0 0;g1 0 0 0;r0 0 1;r1 0 1;r2 0 1;r3 0 1;r4 0 1;r5 0 1;");
        dueSend("all six", all, 99, 17, 17, 17, 16, 16, 16);
        dueSend("all six", all, 96, 16, 16, 16, 16, 16, 16);
        Due.says(26, "OUTSIDE.");
        Due.is("send(100, 0)", one.send(100, 0), Due.OUTSIDE);
        Due.is("send(-1, 0)", one.send(-1, 0), Due.OUTSIDE);
        Due.is("send(0, 6)", one.send(0, 6), Due.OUTSIDE);
        Due.is("send(0, -1)", one.send(0, -1), Due.OUTSIDE);
    }

    private static void sendNobody() {
        Due.says(26, "(cut; 0, if these are 0)");
        for (int n = 0; n <= 99; n += 33) {
            dueSend("nothing could come", new TomorrowBells(), n, 0, 0, 0, 0, 0, 0);
        }
        TomorrowBells x = Due.town("n0 2 1;");
        dueSend("nothing on day 0", x, 9, 0, 0, 0, 0, 0, 0);
        x.live(0);
        dueSend("on day 1", x, 9, 9, 0, 0, 0, 0, 0);
    }
}
