/** The edges of promises 1 to 8, and of the text that tells a town. */
final class TownEdges {
    private static final String[] KINDS = {"c", "m", "d", "k", "y"};

    private TownEdges() {
    }

    static void check() {
        newObject();
        lastCall();
        numbersFromNought();
        feed();
        clauses();
        numbers();
        blanks();
        cannotStand();
        endsTooSoon();
        wrongNumbers();
        tooMany();
        toldAgain();
        firstFault();
        town();
        townBehindOthers();
        townBeginsAnew();
        townWithFault();
        fault();
        told();
        bell();
        group();
        harm();
    }

    /** A text on a new object: what town() and then fault() answer. */
    private static void read(String text, int answer, int fault) {
        TomorrowBells x = new TomorrowBells();
        Due.feed(x, text);
        Due.is("town() of '" + text + "'", x.town(), answer);
        Due.is("fault() of '" + text + "'", x.fault(), fault);
    }

    private static void good(String text, int bells) {
        read(text, bells, Due.NONE);
    }

    private static void newObject() {
        Due.says(1, "No BELLS, no GROUPS; HARM of each HAPPENING 1.");
        TomorrowBells x = new TomorrowBells();
        Due.is("told(0)", x.told(0), 0);
        Due.is("told(1)", x.told(1), 0);
        Due.is("bell(0, 0)", x.bell(0, 0), Due.UNKNOWN);
        Due.is("group(0, 0)", x.group(0, 0), Due.UNKNOWN);
        Due.is("may(1)", x.may(1), Due.UNKNOWN);
        Due.is("may(0)", x.may(0), 0);
        Due.is("done(1, 0)", x.done(1, 0), Due.UNKNOWN);
        Due.is("done(0, 0)", x.done(0, 0), 0);
        Due.is("ring(63)", x.ring(63), 0);
        for (int h = 0; h < 6; h++) {
            Due.is("harm of " + h, x.harm(1 << h), 1);
        }
        Due.says(1, "NONE is -1.");
        Due.is("NONE", TomorrowBells.NONE, -1);
        Due.says(1, "They are far below all that is counted: -1000000001 and on.");
        Due.is("UNKNOWN", TomorrowBells.UNKNOWN, -1000000001);
        Due.is("OUTSIDE", TomorrowBells.OUTSIDE, -1000000002);
        Due.is("NOT", TomorrowBells.NOT, -1000000003);
        Due.is("FULL", TomorrowBells.FULL, -1000000004);
    }

    private static void lastCall() {
        Due.says(1, "An object is used for at most 512 calls after it has been made; what later calls answer is free.");
        TomorrowBells x = new TomorrowBells();
        for (int i = 1; i <= 250; i++) {
            Due.is("feed, call " + i, x.feed(' '), i);
        }
        for (int i = 251; i < 512; i++) {
            Due.is("seed, call " + i, x.seed(i), i == 251 ? 0 : i - 1);
        }
        Due.is("town(), call 512", x.town(), 0);
    }

    private static void numbersFromNought() {
        Due.says(6, "Words in capitals are told where they come first. All numbers are whole;");
        Due.says(6, "What has a number has it from 0 on, as it comes.");
        TomorrowBells x = Due.town("r5 0 1;bc3 0;g7 0 1 6;h0 2;by4 1;n0 1 0;g8 1 2 6;g9 0 3 6;");
        Due.is("bell 0 is the first told", x.bell(0, 1), 3);
        Due.is("bell 1 is the second told", x.bell(1, 1), 4);
        Due.is("group 0 is the first told", x.group(0, 0), 7);
        Due.is("group 1 is the second told", x.group(1, 0), 8);
        Due.is("group 2 is the last told", x.group(2, 0), 9);
        Due.is("nothing has number 2", x.bell(2, 0), Due.UNKNOWN);
        Due.is("nothing has number 3", x.group(3, 0), Due.UNKNOWN);
    }

    private static void feed() {
        Due.says(2, "A letter (0 .. 255) comes behind THE TEXT: how many it has.");
        TomorrowBells x = new TomorrowBells();
        Due.is("feed(0)", x.feed(0), 1);
        Due.is("feed(255)", x.feed(255), 2);
        Due.is("feed(0)", x.feed(0), 3);
        x.town();
        Due.is("feed(0) behind town()", x.feed(0), 1);
        TomorrowBells y = new TomorrowBells();
        Due.feed(y, "bc1 0");
        Due.is("the sixth comes behind five", y.feed(';'), 6);
        Due.is("town()", y.town(), 1);
        Due.is("bell(0, 1)", y.bell(0, 1), 1);
        Due.says(2, "OUTSIDE, FULL (250).");
        Due.says(2, "THE TOWN is told in a text (250 letters at most), letter by letter:");
        TomorrowBells z = new TomorrowBells();
        Due.feed(z, " ".repeat(243) + "bc0 0;");
        Due.is("the 250th letter", z.feed('x'), 250);
        Due.is("the 251st letter", z.feed('x'), Due.FULL);
        Due.is("told(5)", z.told(5), 250);
        Due.is("town()", z.town(), -11);
        Due.is("the 250th was read", z.fault(), 249);
        Due.feed(z, " ".repeat(244) + "bc0 0;");
        Due.is("one that is refused", z.feed('x'), Due.FULL);
        Due.is("is not read", z.town(), 1);
        Due.is("there is room again", z.feed(' '), 1);
    }

    private static void clauses() {
        Due.says(3, "HAPPENINGS are 0 .. 5, DEEDS 0 .. 5.");
        good("bc0 5;bc5 0;r0 0 1;r5 5 1;s0 0 1;s5 5 1;n0 1 0;n5 1 0;h0 0;h5 0;", 2);
        Due.says(3, "Clauses: 'b' KIND H J ';' (5 BELLS at most: KIND 'c' 'm' 'd' 'k' 'y', HAPPENINGS H, J)");
        for (int kind = 0; kind < 5; kind++) {
            TomorrowBells x = Due.town("b" + KINDS[kind] + "5 4;");
            Due.is("KIND of " + KINDS[kind], x.bell(0, 0), kind);
            Due.is("H of " + KINDS[kind], x.bell(0, 1), 5);
            Due.is("J of " + KINDS[kind], x.bell(0, 2), 4);
        }
        good("bc0 0;bm0 0;bd0 0;bk0 0;by0 0;", 5);
        Due.says(3, "'g' N B D E ';' (6 GROUPS at most: N PEOPLE, 1 .. 99; of BELL B told ahead; DEED D if it rings,"
            + " E if it does not; 0 .. 6, 6: none)");
        good("bc0 0;g1 0 0 0;g99 0 6 6;", 1);
        good("bc0 0;bc0 0;bc0 0;bc0 0;bc0 0;g1 4 0 0;", 5);
        good("bc0 0;g1 0 0 0;bc0 0;g1 1 0 0;g1 0 0 0;g1 0 0 0;g1 0 0 0;g1 0 0 0;", 2);
        Due.says(3, "'r' H D N ';' (8 CAUSES at most: HAPPENING H comes, if N PEOPLE or more do DEED D; N 1 .. 999)");
        good("r0 0 1;r5 5 999;" + "r0 0 1;".repeat(6), 0);
        Due.says(3, "'s' H D N ';' (4 STOPS at most: likewise it does not come, whatever causes it)");
        good("s0 0 1;s5 5 999;" + "s0 0 1;".repeat(2), 0);
        Due.says(3, "'n' H Y Z ';' (3 at most: H comes of itself on each day that leaves Z over by Y; Y 1 .. 12, Z 0 .. 11)");
        good("n0 1 0;n5 12 11;n0 1 11;", 0);
        Due.says(3, "'h' H V ';' (each H once: its HARM is V less 50, V 0 .. 99; 1 untold).");
        good("h0 0;h1 99;h2 50;h3 51;h4 1;h5 98;", 0);
        good("", 0);
    }

    private static void numbers() {
        Due.says(3, "NUMBERS have one to three figures;");
        TomorrowBells x = Due.town("bc5 05;bc005 000;g7 00 1 2;g07 0 1 2;g007 001 1 2;r0 0 7;r0 0 07;r0 0 007;h0 099;");
        Due.is("J of 05", x.bell(0, 2), 5);
        Due.is("H of 005", x.bell(1, 1), 5);
        Due.is("N of 7", x.group(0, 0), 7);
        Due.is("N of 07", x.group(1, 0), 7);
        Due.is("N of 007", x.group(2, 0), 7);
        Due.is("B of 001", x.group(2, 1), 1);
        Due.is("V of 099", x.harm(1), 49);
        Due.says(3, "a word, a KIND is one letter;");
        read("bb0 0;", -11, 1);
        read("bcc0 0;", -11, 2);
        read("bcm0 0;", -11, 2);
        read("B", -11, 0);
        read("bC0 0;", -11, 1);
    }

    private static void blanks() {
        Due.says(3, "blanks (32) may stand anywhere but within NUMBERS;");
        good(" ", 0);
        good(" bc0 0;", 1);
        good("b c0 0;", 1);
        good("bc 0 0;", 1);
        good("bc0   0;", 1);
        good("bc0 0 ;", 1);
        good("bc0 0; ", 1);
        good("bc0 0; bc0 0;", 2);
        good("  b  c  0  0  ;  g  9  0  6  6  ;  r  0  0  1  ;  s  0  0  1  ;  n  0  1  0  ;  h  0  0  ;  ", 1);
        read("bc0 0;g1 2 0 0 0;", -12, 9);
        read("h0 1 2;", -11, 5);
        int[] noBlanks = {0, 9, 10, 13, 31, 33, 95, 160, 255};
        for (int letter : noBlanks) {
            read((char) letter + "bc0 0;", -11, 0);
            read("b" + (char) letter + "c0 0;", -11, 1);
            read("bc0" + (char) letter + "0;", -11, 3);
            read("bc0 0" + (char) letter + ";", -11, 5);
            read("bc0 0;" + (char) letter, -11, 6);
        }
        Due.says(3, "two NUMBERS side by side need one.");
        good("bc0 1;", 1);
        read("bc01;", -11, 4);
        read("h050;", -12, 1);
        read("h05;", -11, 3);
        read("r00 1;", -11, 5);
        read("bc0,1;", -11, 3);
    }

    private static void cannotStand() {
        Due.says(3, "1 it cannot stand there (a letter that is no word, no KIND).");
        for (int letter = 0; letter < 256; letter++) {
            if (letter != ' ' && "bgrsnh".indexOf(letter) < 0) {
                read(String.valueOf((char) letter), -11, 0);
                read("h1 1;" + (char) letter, -11, 5);
            }
            if (letter != ' ' && "cmdky".indexOf(letter) < 0) {
                read("b" + (char) letter + "0 0;", -11, 1);
            }
            if (letter != ' ' && (letter < '0' || letter > '9')) {
                read("n" + (char) letter, -11, 1);
                read("n0 " + (char) letter, -11, 3);
                read("n0 1 " + (char) letter, -11, 5);
                if (letter != ';') {
                    read("n0 1 0" + (char) letter, -11, 6);
                }
            }
        }
        read("bc0 0;;", -11, 6);
        read("bc0 0 0;", -11, 6);
        read("bc0;", -11, 3);
        read("bc;", -11, 2);
        read("b;", -11, 1);
        read("bc0 0;g1 0 0;", -11, 12);
        read("bc0 0;g1 0 0 0 0;", -11, 15);
        read("r0 0;", -11, 4);
        read("r0 0 1 1;", -11, 7);
        read("s0 0;", -11, 4);
        read("s0 0 1 1;", -11, 7);
        read("n0 1;", -11, 4);
        read("n0 1 0 0;", -11, 7);
        read("h0;", -11, 2);
        read("h0 0 0;", -11, 5);
        read("n0 -1 0;", -11, 3);
        read("n0 +1 0;", -11, 3);
        read("bc0 0bc0 0;", -11, 5);
    }

    /** Each text cut off behind any of its letters: within a clause the fault is at the end, at a clause's end is none. */
    private static void endsTooSoon() {
        Due.says(3, "(the end at the text's length)");
        String[] whole = {"bc0 0 ;", "r0 0 1 ;", "s0 0 1 ;", "n0 1 0 ;", "h0 0 ;"};
        for (String text : whole) {
            for (int length = 1; length < text.length(); length++) {
                read(text.substring(0, length), -11, length);
            }
            read(text, text.startsWith("b") ? 1 : 0, Due.NONE);
        }
        String group = "bc0 0;g1 0 0 0 ;";
        for (int length = 7; length < group.length(); length++) {
            read(group.substring(0, length), -11, length);
        }
        read(" ".repeat(244) + "bc0 0 ", -11, 250);
        read("b" + " ".repeat(249), -11, 250);
    }

    private static void wrongNumbers() {
        Due.says(3, "2 a NUMBER of four figures or more, or out of its bounds; a BELL that was not told yet (at its first).");
        read("bc0000 0;", -12, 2);
        read("bc0 0001;", -12, 4);
        read("bc0 0;g0001 0 0 0;", -12, 7);
        read("bc0 0;g1 0000 0 0;", -12, 9);
        read("r0 0 1000;", -12, 5);
        read("r0 0 0001;", -12, 5);
        read("h0 0050;", -12, 3);
        read("n0 4294967297 0;", -12, 3);
        read("n0 18446744073709551617 0;", -12, 3);
        read("bc6 0;", -12, 2);
        read("bc0 6;", -12, 4);
        read("bc0 999;", -12, 4);
        read("bc0 0;g0 0 0 0;", -12, 7);
        read("bc0 0;g100 0 0 0;", -12, 7);
        read("bc0 0;g1 0 7 0;", -12, 11);
        read("bc0 0;g1 0 0 7;", -12, 13);
        for (String word : new String[] {"r", "s"}) {
            read(word + "6 0 1;", -12, 1);
            read(word + "0 6 1;", -12, 3);
            read(word + "0 0 0;", -12, 5);
            read(word + "0 0 1000;", -12, 5);
        }
        read("n6 1 0;", -12, 1);
        read("n0 0 0;", -12, 3);
        read("n0 13 0;", -12, 3);
        read("n0 1 12;", -12, 5);
        read("h6 0;", -12, 1);
        read("h0 100;", -12, 3);
        read("g1 0 0 0;", -12, 3);
        read("bc0 0;g1 1 0 0;", -12, 9);
        read("bc0 0;g1 1 0 0;bc0 0;", -12, 9);
        read("bc0 0;bc0 0;bc0 0;bc0 0;bc0 0;g1 5 0 0;", -12, 33);
        read("g1 0 0 0;bc0 0;", -12, 3);
        bellsOfAnEarlierTown();
    }

    /** Bells of the town that stands are not those of the text that is read. */
    private static void bellsOfAnEarlierTown() {
        TomorrowBells x = Due.town("bc0 0;bc0 0;");
        Due.feed(x, "g1 0 0 0;");
        Due.is("town() with bells of an earlier town", x.town(), -12);
        Due.is("fault()", x.fault(), 3);
    }

    private static void tooMany() {
        Due.says(3, "3 a sixth BELL, a seventh GROUP, a ninth CAUSE, a fifth STOP, a fourth 'n' (at it).");
        many("bc0 0;", "", 5);
        many("g1 0 6 6;", "bc0 0;", 6);
        many("r0 0 1;", "", 8);
        many("s0 0 1;", "", 4);
        many("n0 1 0;", "", 3);
        String all = "bc0 0;".repeat(5) + "g9 0 6 6;".repeat(6) + "r0 0 1;".repeat(8) + "s0 0 1;".repeat(4)
            + "n0 1 0;".repeat(3) + "h0 0;h1 0;h2 0;h3 0;h4 0;h5 0;";
        Due.is("the fullest town has letters", all.length(), 219);
        good(all, 5);
        for (String word : new String[] {"b", "g", "r", "s", "n"}) {
            read(all + word, -13, 219);
        }
        read("r0 0 1;".repeat(4) + "s0 0 1;".repeat(4) + "r0 0 1;".repeat(4), 0, Due.NONE);
    }

    private static void many(String clause, String ahead, int most) {
        String full = ahead + clause.repeat(most);
        int bells = ahead.isEmpty() ? clause.startsWith("b") ? most : 0 : 1;
        good(full, bells);
        read(full + clause, -13, full.length());
        read(full + "  " + clause, -13, full.length() + 2);
        read(full + clause.charAt(0), -13, full.length());
    }

    private static void toldAgain() {
        Due.says(3, "4 'h' of an H again (at the H).");
        for (int h = 0; h < 6; h++) {
            read("h" + h + " 0;h" + h + " 1;", -14, 6);
            read("h" + h + " 0;h  00" + h, -14, 8);
            read("h" + h + " 0;h" + (h + 1) % 6 + " 0;h" + h + " 0;", -14, 11);
        }
        TomorrowBells x = Due.town("h0 0;");
        Due.feed(x, "h0 1;");
        Due.is("an earlier town's 'h' is not told again", x.town(), 0);
        Due.is("harm(1)", x.harm(1), -49);
        Due.feed(x, "h3 1;x");
        x.town();
        Due.feed(x, "h3 2;");
        Due.is("nor that of a text with a fault", x.town(), 0);
    }

    private static void firstFault() {
        Due.says(3, "FAULTS, at the first letter that has one");
        read("bc9 x", -12, 2);
        read("bx9", -11, 1);
        read("bc0 0;".repeat(5) + "bx9", -13, 30);
        read("bc9 0;" + "bc0 0;".repeat(5), -12, 2);
        read("h0 0;h0 999x", -14, 6);
        read("h0 x;h0 0;", -11, 3);
        read("bc0 0;g0 9 9 9;", -12, 7);
        read("bc0 0;g1 9 x", -12, 9);
        read("n0 0 99;", -12, 3);
        read("x" + "bc9 9;", -11, 0);
        Due.says(3, ", of these the least:");
        read("h0 0;h0000 0;", -12, 6);
        read("h0 0;h0000", -12, 6);
        read("h0 0;h000 0;", -14, 6);
        read("h0 0;h6 0;", -12, 6);
    }

    private static void town() {
        Due.says(3, "THE TEXT (it is empty then) becomes THE TOWN");
        TomorrowBells x = Due.town("bc0 0;g1 0 0 6;r0 0 1;s0 0 1;n0 1 0;h0 0;");
        Due.is("told(5)", x.told(5), 0);
        Due.says(3, ": how many BELLS;");
        Due.is("town() of the empty text", x.town(), 0);
        for (int what = 0; what <= 4; what++) {
            Due.is("nothing is told: told(" + what + ")", x.told(what), 0);
        }
        Due.is("harm(1) untold", x.harm(1), 1);
        for (int bells = 0; bells <= 5; bells++) {
            Due.feed(x, "bc0 0;".repeat(bells));
            Due.is("town() of " + bells, x.town(), bells);
        }
    }

    /** Nothing of any earlier text is left, be it a town that stood or one that had a fault. */
    private static void townBehindOthers() {
        Due.says(3, "THE TEXT (it is empty then) becomes THE TOWN");
        String fullest = "bk4 5;".repeat(5) + "g9 0 5 5;".repeat(6) + "r0 5 1;".repeat(8) + "s1 5 1;".repeat(4)
            + "n2 1 0;".repeat(3) + "h0 0;h1 0;h2 0;h3 0;h4 0;h5 0;";
        for (int faults = 0; faults < 2; faults++) {
            TomorrowBells x = new TomorrowBells();
            Due.feed(x, fullest + (faults == 0 ? "" : "x"));
            x.town();
            x.town();
            Due.feed(x, "bc3 0;g2 0 1 6;r3 1 2;");
            Due.is("town() behind a full one", x.town(), 1);
            int[] due = {1, 1, 1, 0, 0, 0};
            for (int what = 0; what < due.length; what++) {
                Due.is("told(" + what + ")", x.told(what), due[what]);
            }
            Due.is("harm(63) untold", x.harm(63), 6);
            Due.is("people of the bell", x.bell(0, 3), 2);
            Due.is("what comes", x.comes(1), 8);
            Due.is("what comes", x.comes(0), 0);
            x.town();
            for (int what = 0; what <= 5; what++) {
                Due.is("behind the next: told(" + what + ")", x.told(what), 0);
            }
        }
    }

    private static TomorrowBells livedIn() {
        TomorrowBells x = Due.town("bc0 0;bc1 0;g5 0 0 6;g6 1 1 6;r0 0 5;r1 1 6;h0 60;h1 70;");
        x.yesterday(5);
        x.keep(0);
        x.live(3);
        x.live(1);
        x.deaf(1, true);
        x.may(1);
        x.see(0, true, 0, 1);
        x.see(1, true, 0, 1);
        x.seed(123);
        x.keep(1);
        Due.is("days lived", x.told(6), 2);
        Due.is("harm so far", x.told(8), 40);
        return x;
    }

    private static void townBeginsAnew() {
        TomorrowBells x = livedIn();
        Due.feed(x, "bc0 0;by2 0;g5 0 0 6;g6 1 1 6;g7 1 1 6;");
        Due.says(3, "(day 0, YESTERDAY empty, HARM 0; nobody DEAF, all MAY; nothing SEEN; IMAGES are gone; THE SEED stays)");
        Due.is("town()", x.town(), 2);
        Due.is("the day that comes", x.told(6), 0);
        Due.is("nothing can be undone", x.undo(1), Due.OUTSIDE);
        Due.is("YESTERDAY", x.told(7), 0);
        Due.is("HARM", x.told(8), 0);
        Due.is("DEAF", x.told(9), 0);
        Due.is("MAY: all of the new town", x.told(10), 7);
        Due.is("SEEN", x.told(11), 0);
        Due.is("SEEN of 0", x.bell(0, 4), 0);
        Due.is("means all", x.means(1, Due.NONE), 48);
        Due.is("image 0", x.goBack(0), Due.NOT);
        Due.is("image 1", x.goBack(1), Due.NOT);
        Due.is("THE SEED", x.seed(0), 123);
        TomorrowBells y = livedIn();
        Due.is("the empty town", y.town(), 0);
        Due.is("MAY: nobody is there", y.told(10), 0);
        Due.is("THE SEED", y.seed(0), 123);
        TomorrowBells z = Due.town("bc0 0;");
        z.yesterday(9);
        z.town();
        Due.is("YESTERDAY that was told otherwise", z.yesterday(0), 0);
    }

    private static void townWithFault() {
        Due.says(3, "-10 less the number of its FAULT (all is as it was).");
        String[] texts = {"x", "h9 9;", "bc0 0;".repeat(6), "h0 1;h0 2;", "by5 5;g9 0 3 3;r3 3 1;s1 1 1;n2 1 0;h1 0;h2 0;h2 0;"};
        int[] due = {-11, -12, -13, -14, -14};
        for (int i = 0; i < texts.length; i++) {
            TomorrowBells x = livedIn();
            Due.feed(x, texts[i]);
            Due.is("town() of " + texts[i], x.town(), due[i]);
            Due.is("its letters are gone", x.told(5), 0);
            String other = Everything.of(livedIn());
            String same = Everything.of(x);
            Due.holds("all is as it was behind " + texts[i], behindFault(same).equals(behindFault(other)));
        }
    }

    /** The first line is the fault itself, which is not as it was. */
    private static String behindFault(String everything) {
        return everything.substring(everything.indexOf('\n'));
    }

    private static void fault() {
        Due.says(4, "The letter of the FAULT of the latest town(); NONE.");
        TomorrowBells x = new TomorrowBells();
        Due.is("fault() ahead of any town()", x.fault(), Due.NONE);
        Due.feed(x, "  x");
        Due.is("fault() of a text that is not read yet", x.fault(), Due.NONE);
        x.town();
        Due.is("fault()", x.fault(), 2);
        Due.is("fault() again", x.fault(), 2);
        Due.feed(x, "bc0 0;");
        Due.is("fault() stays till town()", x.fault(), 2);
        x.town();
        Due.is("fault() of none", x.fault(), Due.NONE);
        Due.feed(x, "h0 0;h6 0;");
        x.town();
        Due.is("fault() of the next", x.fault(), 6);
        Due.feed(x, "y");
        x.town();
        Due.is("fault() of the latest, at the first letter", x.fault(), 0);
        x.keep(0);
        x.goBack(0);
        Due.is("fault() behind an image", x.fault(), 0);
        x.town();
        Due.is("fault() of the empty text", x.fault(), Due.NONE);
    }

    private static void told() {
        Due.says(5, "0 BELLS, 1 GROUPS, 2 CAUSES, 3 STOPS, 4 'n', 5 letters of THE TEXT, 6 the day that comes, 7 YESTERDAY,"
            + " 8 HARM so far, 9 who is DEAF (a SET), 10 who MAY (a SET), 11 what was SEEN of all BELLS, 12 how many DAYS FIT.");
        TomorrowBells x = Due.town("bc0 0;".repeat(5) + "g1 0 6 6;".repeat(6) + "r0 0 1;".repeat(8) + "s0 0 1;".repeat(4)
            + "n0 1 0;".repeat(3));
        int[] fullest = {5, 6, 8, 4, 3, 0, 0, 0, 0, 0, 63, 0};
        for (int what = 0; what < fullest.length; what++) {
            Due.is("told(" + what + ") of the fullest", x.told(what), fullest[what]);
        }
        TomorrowBells y = livedIn();
        Due.feed(y, "abc");
        int[] lived = {2, 2, 2, 0, 0, 3, 2, 1, 40, 2, 1, 2, 2};
        for (int what = 0; what < lived.length; what++) {
            Due.is("told(" + what + ") of one lived in", y.told(what), lived[what]);
        }
        Due.is("no day fits: told(12)", Due.town("bc0 0;g1 0 6 0;r0 0 1;").told(12), 0);
        Due.is("harm below nothing: told(8)", harmBelow(), -100);
        TomorrowBells z = Due.town("bc0 0;".repeat(5));
        for (int i = 0; i < 60; i++) {
            z.see(i / 12, true, 0, 1);
        }
        Due.is("all that can be seen: told(11)", z.told(11), 60);
        Due.says(5, "OUTSIDE.");
        Due.is("told(-1)", x.told(-1), Due.OUTSIDE);
        Due.is("told(13)", x.told(13), Due.OUTSIDE);
    }

    private static int harmBelow() {
        TomorrowBells x = Due.town("n0 1 0;h0 0;");
        x.drift(2);
        return x.told(8);
    }

    private static void bell() {
        Due.says(6, "Of a BELL: what = 0 KIND, 1 H, 2 J, 3 PEOPLE of its GROUPS, 4 what was SEEN of it.");
        TomorrowBells x = Due.town("bd5 3;bk1 4;g99 1 6 6;g99 1 6 6;g99 1 6 6;g99 1 6 6;g98 1 6 6;g99 1 6 6;");
        x.deaf(0, true);
        x.may(0);
        x.see(1, true, 0, 0);
        x.see(1, true, 0, 0);
        int[][] due = {{2, 5, 3, 0, 0}, {3, 1, 4, 593, 2}};
        for (int b = 0; b < 2; b++) {
            for (int what = 0; what < 5; what++) {
                Due.is("bell(" + b + ", " + what + ")", x.bell(b, what), due[b][what]);
            }
        }
        Due.says(6, "UNKNOWN, OUTSIDE.");
        Due.is("bell(2, 0)", x.bell(2, 0), Due.UNKNOWN);
        Due.is("bell(1, 5)", x.bell(1, 5), Due.OUTSIDE);
    }

    private static void group() {
        Due.says(7, "Of a GROUP: what = 0 N, 1 BELL, 2 D, 3 E, 4 whether it is DEAF (1, 0), 5 whether it MAY (1, 0).");
        TomorrowBells x = Due.town("bc0 0;bc0 0;g1 1 0 6;g99 0 6 0;g2 1 5 4;");
        int[][] due = {{1, 1, 0, 6, 0, 1}, {99, 0, 6, 0, 0, 1}, {2, 1, 5, 4, 0, 1}};
        dueGroups(x, due);
        x.deaf(2, true);
        x.may(4);
        int[][] changed = {{1, 1, 0, 6, 0, 0}, {99, 0, 6, 0, 0, 0}, {2, 1, 5, 4, 1, 1}};
        dueGroups(x, changed);
        Due.says(7, "UNKNOWN, OUTSIDE.");
        Due.is("group(3, 0)", x.group(3, 0), Due.UNKNOWN);
        Due.is("group(2, 6)", x.group(2, 6), Due.OUTSIDE);
    }

    private static void dueGroups(TomorrowBells x, int[][] due) {
        for (int g = 0; g < due.length; g++) {
            for (int what = 0; what < 6; what++) {
                Due.is("group(" + g + ", " + what + ")", x.group(g, what), due[g][what]);
            }
        }
    }

    private static void harm() {
        Due.says(8, "HARM of a DAY (a SET of HAPPENINGS).");
        Due.says(8, "HARM of a DAY: HARMS of its HAPPENINGS together.");
        Due.says(8, "A SET is a whole number, bit k for k.");
        TomorrowBells x = Due.town("h0 0;h1 99;h2 50;h3 49;h5 53;");
        int[] single = {-50, 49, 0, -1, 1, 3};
        for (int h = 0; h < 6; h++) {
            Due.is("harm of " + h, x.harm(1 << h), single[h]);
        }
        Due.is("harm(0): the empty day", x.harm(0), 0);
        Due.is("harm(63): all", x.harm(63), 2);
        Due.is("harm(37)", x.harm(37), -47);
        Due.is("the least", Due.town("h0 0;h1 0;h2 0;h3 0;h4 0;h5 0;").harm(63), -300);
        Due.is("the greatest", Due.town("h0 99;h1 99;h2 99;h3 99;h4 99;h5 99;").harm(63), 294);
        Due.says(8, "OUTSIDE.");
        Due.is("harm(64)", x.harm(64), Due.OUTSIDE);
        Due.is("harm(-1)", x.harm(-1), Due.OUTSIDE);
    }
}
