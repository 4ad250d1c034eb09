import java.util.Arrays;

/** Every number that a call may be given, and every place of the town: each in turn, with answers that a plain rule tells. */
final class EveryEdges {
    private static final String FIVE_TRUE = "bc4 0;bc3 0;bc2 0;bc1 0;bc0 0;g1 0 0 6;g1 1 1 6;g1 2 2 6;g1 3 3 6;g1 4 4 6;"
        + "r4 0 1;r3 1 1;r2 2 1;r1 3 1;r0 4 1;";

    private EveryEdges() {
    }

    static void check() {
        letters();
        numbers();
        bells();
        groups();
        harms();
        signs();
        rings();
        deeds();
        places();
        rule();
        hushAndSend();
        run();
        wire();
        seen();
        watch();
    }

    /** The text must have this fault, at this letter; 0: it has none. */
    private static void dueFault(String text, int fault, int letter) {
        TomorrowBells x = new TomorrowBells();
        Due.feed(x, text);
        int answer = x.town();
        Due.is("town() of '" + text + "'", fault == 0 ? Math.min(answer, 0) : answer, fault == 0 ? 0 : -10 - fault);
        Due.is("fault() of '" + text + "'", x.fault(), letter);
    }

    /** Each letter there is, as a word, as a KIND, where a NUMBER is due, behind the last NUMBER. */
    private static void letters() {
        Due.says(3, "1 it cannot stand there (a letter that is no word, no KIND).");
        for (char c = 0; c < 256; c++) {
            boolean blank = c == ' ';
            boolean figure = c >= '0' && c <= '9';
            boolean great = c >= '6' && c <= '9';
            dueFault("" + c, blank ? 0 : 1, blank ? Due.NONE : "bgrsnh".indexOf(c) >= 0 ? 1 : 0);
            dueFault("bc0 0;" + c, blank ? 0 : 1, blank ? Due.NONE : "bgrsnh".indexOf(c) >= 0 ? 7 : 6);
            dueFault("b" + c, 1, blank || "cmdky".indexOf(c) >= 0 ? 2 : 1);
            dueFault("bc" + c, great ? 2 : 1, blank || figure && !great ? 3 : 2);
            dueFault("bc0" + c, great ? 2 : 1, great ? 2 : blank || figure ? 4 : 3);
            dueFault("bc0 0" + c, c == ';' ? 0 : great ? 2 : 1, c == ';' ? Due.NONE : great ? 4 : blank || figure ? 6 : 5);
        }
    }

    /** Each NUMBER of three figures at most, where each clause has one. */
    private static void numbers() {
        for (int n = 0; n <= 999; n++) {
            Due.says(3, "2 a NUMBER of four figures or more, or out of its bounds;");
            dueFault("bc" + n + " 0;", n <= 5 ? 0 : 2, n <= 5 ? Due.NONE : 2);
            dueFault("bc0 " + n + ";", n <= 5 ? 0 : 2, n <= 5 ? Due.NONE : 4);
            dueFault("bc0 0;g1 " + n + " 6 6;", n == 0 ? 0 : 2, n == 0 ? Due.NONE : 9);
            dueFault("bc0 0;g1 0 " + n + " 6;", n <= 6 ? 0 : 2, n <= 6 ? Due.NONE : 11);
            dueFault("bc0 0;g1 0 6 " + n + ";", n <= 6 ? 0 : 2, n <= 6 ? Due.NONE : 13);
            dueFault("r" + n + " 0 1;", n <= 5 ? 0 : 2, n <= 5 ? Due.NONE : 1);
            dueFault("s0 " + n + " 1;", n <= 5 ? 0 : 2, n <= 5 ? Due.NONE : 3);
            dueFault("s0 0 " + n + ";", n > 0 ? 0 : 2, n > 0 ? Due.NONE : 5);
            dueFault("n" + n + " 1 0;", n <= 5 ? 0 : 2, n <= 5 ? Due.NONE : 1);
            dueFault("n0 " + n + " 0;", n > 0 && n <= 12 ? 0 : 2, n > 0 && n <= 12 ? Due.NONE : 3);
            dueFault("n0 1 " + n + ";", n <= 11 ? 0 : 2, n <= 11 ? Due.NONE : 5);
            dueFault("h" + n + " 0;", n <= 5 ? 0 : 2, n <= 5 ? Due.NONE : 1);
            dueFault("h0 " + n + ";", n <= 99 ? 0 : 2, n <= 99 ? Due.NONE : 3);
            dueFault("bc0 0;g" + n + " 0 6 6;", n > 0 && n <= 99 ? 0 : 2, n > 0 && n <= 99 ? Due.NONE : 7);
            dueFault("r0 0 " + n + ";", n > 0 ? 0 : 2, n > 0 ? Due.NONE : 5);
            if (n > 0) {
                Due.says(22, "RUN: the fewest PEOPLE more (0 .. 999) in a GROUP,");
                Due.is("run(0, 0) where " + n + " are needed", Due.town("bc0 0;g1 0 0 0;r0 0 " + n + ";").run(0, 0), n - 1);
            }
            if (n > 0 && n <= 99) {
                Due.says(7, "Of a GROUP: what = 0 N,");
                Due.is("group(0, 0) of " + n, Due.town("bc0 0;g" + n + " 0 6 6;").group(0, 0), n);
            }
            if (n <= 99) {
                Due.says(8, "its HARM is V less 50, V 0 .. 99;");
                Due.is("harm(1) of " + n, Due.town("h0 " + n + ";").harm(1), n - 50);
            }
        }
    }

    private static void bells() {
        Due.says(6, "Of a BELL: what = 0 KIND, 1 H, 2 J, 3 PEOPLE of its GROUPS, 4 what was SEEN of it.");
        for (int turn = 0; turn < 6; turn++) {
            StringBuilder text = new StringBuilder();
            for (int b = 0; b < 5; b++) {
                text.append('b').append("cmdky".charAt((b + turn) % 5)).append((b + turn) % 6).append(' ').append((b + 2 * turn) % 6).append(';');
            }
            for (int g = 0; g < 6; g++) {
                text.append('g').append(1 << g).append(' ').append((g + turn) % 5).append(" 6 6;");
            }
            TomorrowBells x = Due.town(text.toString());
            for (int b = 0; b < 5; b++) {
                int people = 0;
                for (int g = 0; g < 6; g++) {
                    people += (g + turn) % 5 == b ? 1 << g : 0;
                }
                Due.is("bell(" + b + ", 0) of " + text, x.bell(b, 0), (b + turn) % 5);
                Due.is("bell(" + b + ", 1) of " + text, x.bell(b, 1), (b + turn) % 6);
                Due.is("bell(" + b + ", 2) of " + text, x.bell(b, 2), (b + 2 * turn) % 6);
                Due.is("bell(" + b + ", 3) of " + text, x.bell(b, 3), people);
            }
        }
    }

    private static void groups() {
        Due.says(7, "Of a GROUP: what = 0 N, 1 BELL, 2 D, 3 E, 4 whether it is DEAF (1, 0), 5 whether it MAY (1, 0).");
        for (int turn = 0; turn < 7; turn++) {
            StringBuilder text = new StringBuilder("bc0 0;bc0 0;bc0 0;bc0 0;bc0 0;");
            for (int g = 0; g < 6; g++) {
                text.append('g').append(99 - g - 9 * turn).append(' ').append((g + turn) % 5).append(' ');
                text.append((g + turn) % 7).append(' ').append((g + 2 * turn) % 7).append(';');
            }
            TomorrowBells x = Due.town(text.toString());
            x.deaf(turn % 6, true);
            x.may(63 - (1 << (turn + 1) % 6));
            for (int g = 0; g < 6; g++) {
                Due.is("group(" + g + ", 0) of " + text, x.group(g, 0), 99 - g - 9 * turn);
                Due.is("group(" + g + ", 1) of " + text, x.group(g, 1), (g + turn) % 5);
                Due.is("group(" + g + ", 2) of " + text, x.group(g, 2), (g + turn) % 7);
                Due.is("group(" + g + ", 3) of " + text, x.group(g, 3), (g + 2 * turn) % 7);
                Due.is("group(" + g + ", 4) of " + text, x.group(g, 4), g == turn % 6 ? 1 : 0);
                Due.is("group(" + g + ", 5) of " + text, x.group(g, 5), g == (turn + 1) % 6 ? 0 : 1);
            }
        }
    }

    private static void harms() {
        Due.says(8, "HARM of a DAY: HARMS of its HAPPENINGS together.");
        TomorrowBells x = Due.town("h0 51;h1 52;h2 54;h3 58;h4 66;h5 82;");
        TomorrowBells y = Due.town("h5 49;h4 48;h3 46;h2 42;h1 34;h0 18;");
        for (int day = 0; day < 64; day++) {
            Due.is("harm(" + day + ")", x.harm(day), day);
            int backwards = Integer.reverse(day) >>> 26;
            Due.is("harm(" + day + ") below nothing", y.harm(day), -backwards);
            Due.is("harm(" + day + ") untold", new TomorrowBells().harm(day), Integer.bitCount(day));
        }
    }

    private static void signs() {
        Due.says(9, "RING of a DAY: BELLS that ring for it:");
        for (int sign = 0; sign < 500; sign++) {
            int h = sign / 10 % 10;
            int j = sign % 10;
            if (h < 6 && j < 6) {
                TomorrowBells x = Due.town("b" + "cmdky".charAt(sign / 100) + h + " " + j + ";");
                for (int day = 0; day < 64; day++) {
                    x.yesterday(63 - day);
                    Due.is("ring(" + day + ") of sign " + sign, x.ring(day), Signs.rings(sign, 63 - day, day) ? 1 : 0);
                }
            }
        }
    }

    /** Group g has so many people that each set of groups has a number of its own. */
    private static void rings() {
        StringBuilder text = new StringBuilder("bc0 0;bc0 0;bc0 0;bc0 0;bc0 0;");
        for (int g = 0; g < 6; g++) {
            text.append('g').append(1 << g).append(' ').append(g % 5).append(' ').append(g).append(' ').append((g + 1) % 6).append(';');
        }
        TomorrowBells x = Due.town(text.toString());
        TomorrowBells five = Due.town(FIVE_TRUE);
        for (int ring = 0; ring < 32; ring++) {
            Due.says(10, "DONE by a RING: each GROUP does D, if its BELL rings, else E;");
            for (int deed = 0; deed < 6; deed++) {
                int people = 0;
                for (int g = 0; g < 6; g++) {
                    boolean rings = (ring >> g % 5 & 1) == 1;
                    people += (rings ? g : (g + 1) % 6) == deed ? 1 << g : 0;
                }
                Due.is("done(" + ring + ", " + deed + ")", x.done(ring, deed), people);
            }
            Due.says(11, "What COMES by a RING.");
            Due.is("comes(" + ring + ")", five.comes(ring), Integer.reverse(ring) >>> 27);
        }
    }

    private static void deeds() {
        for (int h = 0; h < 6; h++) {
            for (int d = 0; d < 6; d++) {
                String one = "bc0 0;g1 0 " + d + " 6;";
                Due.says(11, "HAPPENINGS that are caused (by PEOPLE of all GROUPS who do a DEED together)");
                TomorrowBells caused = Due.town(one + "r" + h + " " + d + " 1;");
                Due.is(h + " is caused by " + d, caused.comes(1), 1 << h);
                Due.is(h + " is not caused without " + d, caused.comes(0), 0);
                Due.says(11, "or come of themselves, and are not stopped.");
                TomorrowBells stopped = Due.town(one + "n" + h + " 1 0;s" + h + " " + d + " 1;");
                Due.is(h + " is stopped by " + d, stopped.comes(1), 0);
                Due.is(h + " comes of itself without " + d, stopped.comes(0), 1 << h);
            }
        }
    }

    /** Of all causes, stops, 'n' that there may be one alone has to do with it, at each place in turn. */
    private static void places() {
        String one = "bc0 0;g9 0 0 6;";
        Due.says(3, "(8 CAUSES at most: HAPPENING H comes, if N PEOPLE or more do DEED D; N 1 .. 999)");
        for (int place = 0; place < 8; place++) {
            String text = one + "r0 0 10;".repeat(place) + "r5 0 9;" + "r0 0 10;".repeat(7 - place);
            Due.is("cause " + place, Due.town(text).comes(1), 32);
        }
        Due.says(3, "(4 STOPS at most: likewise it does not come, whatever causes it)");
        for (int place = 0; place < 4; place++) {
            String text = one + "n5 1 0;n0 1 0;" + "s0 0 10;".repeat(place) + "s5 0 9;" + "s0 0 10;".repeat(3 - place);
            Due.is("stop " + place, Due.town(text).comes(1), 1);
        }
        Due.says(3, "(3 at most: H comes of itself on each day that leaves Z over by Y; Y 1 .. 12, Z 0 .. 11)");
        for (int place = 0; place < 3; place++) {
            String text = "n0 2 1;".repeat(place) + "n5 2 0;" + "n0 2 1;".repeat(2 - place);
            Due.is("'n' " + place, Due.town(text).comes(0), 32);
        }
        for (int every = 1; every <= 12; every++) {
            for (int over = 0; over <= 11; over++) {
                TomorrowBells x = Due.town("n3 " + every + " " + over + ";");
                for (int day = 0; day < 26; day++) {
                    Due.is("day " + day + " of n3 " + every + " " + over, x.live(0), day % every == over ? 8 : 0);
                }
            }
        }
    }

    /** So many of six groups of ten must act together that it is stopped, a harm of 40. */
    private static void rule() {
        Due.says(20, "LEAST HARM by k who MAY act (k 0 .. 6):");
        for (int needed = 1; needed <= 6; needed++) {
            TomorrowBells x = Due.town("by0 0;" + "g10 0 1 6;".repeat(6) + "n0 1 0;s0 1 " + 10 * needed + ";h0 90;");
            x.yesterday(1);
            for (int k = 0; k <= 6; k++) {
                Due.is("rule(" + k + ", 0), " + needed + " needed", x.rule(k, 0), k < needed ? 40 : 0);
                Due.is("rule(" + k + ", 1), " + needed + " needed", x.rule(k, 1), k < needed ? 0 : (1 << needed) - 1);
            }
        }
    }

    private static void hushAndSend() {
        for (int h = 0; h < 6; h++) {
            TomorrowBells x = Due.town("bc" + h + " 0;g10 0 0 6;r" + h + " 0 10;");
            TomorrowBells itself = Due.town("n" + h + " 1 0;");
            for (int other = 0; other < 6; other++) {
                Due.says(21, "DEAF: the fewest GROUPS that must be DEAF");
                Due.is("hush(" + other + ", 0) where " + h + " could come", x.hush(other, 0), other == h ? 1 : 0);
                Due.is("hush(" + other + ", 1) where " + h + " could come", x.hush(other, 1), other == h ? 1 : 0);
                Due.is("hush(" + other + ", 0) where " + h + " must come", itself.hush(other, 0), other == h ? Due.NONE : 0);
                Due.says(26, "SEND: helpers of a HAPPENING.");
                for (int n = other; n <= 99; n += 7) {
                    Due.is("send(" + n + ", " + other + ") where " + h + " comes", itself.send(n, other), other == h ? n : 0);
                }
            }
        }
        Due.says(26, "; who is left goes one by one to those with the greatest rest (of like ones the least H).");
        TomorrowBells five = Due.town(FIVE_TRUE);
        for (int n = 0; n <= 99; n++) {
            for (int h = 0; h < 5; h++) {
                if (n % 25 == 24 || n < 8) {
                    Due.is("send(" + n + ", " + h + "), five alike", five.send(n, h), n / 5 + (h < n % 5 ? 1 : 0));
                }
            }
        }
    }

    /** Group g does deed g, whatever rings, and ten who do it cause one happening. */
    private static void run() {
        Due.says(22, "RUN: the fewest PEOPLE more (0 .. 999) in a GROUP,");
        for (int shift = 0; shift < 6; shift++) {
            StringBuilder text = new StringBuilder("bc0 0;");
            for (int g = 0; g < 6; g++) {
                text.append("g").append(g + 1).append(" 0 ").append(g).append(' ').append(g).append(';');
                text.append("r").append((g + shift) % 6).append(' ').append(g).append(" 10;");
            }
            TomorrowBells x = Due.town(text.toString());
            for (int g = 0; g < 6; g++) {
                for (int h = 0; h < 6; h++) {
                    Due.is("run(" + g + ", " + h + ") of " + text, x.run(g, h), h == (g + shift) % 6 ? 9 - g : Due.NONE);
                }
            }
        }
    }

    private static void wire() {
        Due.says(24, "WIRE: if BELL a rings just as BELL b does (whatever its sign is): how many DAYS FIT then.");
        TomorrowBells five = Due.town(FIVE_TRUE);
        TomorrowBells silent = Due.town("by0 0;by0 0;by0 0;by0 0;bc0 0;g1 4 0 6;r0 0 1;");
        for (int a = 0; a < 5; a++) {
            for (int b = 0; b < 5; b++) {
                Due.is("wire(" + a + ", " + b + ")", five.wire(a, b), a == b ? Due.UNKNOWN : 16);
                Due.is("wire(" + a + ", " + b + ") to silent ones", silent.wire(a, b), a == b ? Due.UNKNOWN : a == 4 ? 1 : 2);
            }
        }
    }

    private static void seen() {
        for (int b = 0; b < 5; b++) {
            TomorrowBells x = Due.town("bc0 0;bc0 0;bc0 0;bc0 0;bc0 0;");
            Due.says(27, "SEEN of a BELL: how much of it.");
            Due.is("see(" + b + ", ..)", x.see(b, true, 0, 0), 1);
            for (int other = 0; other < 5; other++) {
                Due.is("SEEN of " + other, x.bell(other, 4), other == b ? 1 : 0);
                Due.says(28, "by which all SEEN of it is so:");
                Due.is("means(" + other + ", NONE)", x.means(other, Due.NONE), other == b ? 6 : 48);
                Due.says(29, "signs that are left are parted most evenly");
                Due.is("watch(" + other + ")", x.watch(other), other == b ? 7 : 15);
            }
            Due.says(30, "Nothing is SEEN: how much there was.");
            Due.is("tear()", x.tear(), 1);
            Due.is("means(" + b + ", NONE) behind it", x.means(b, Due.NONE), 48);
        }
    }

    /** The greater part of the signs left, for each day; the least of these, and the first day that has it. */
    private static int dayToWatch(boolean[] isLeft) {
        int left = 0;
        int[] ringing = new int[64];
        for (int s = 0; s < Signs.ALL.length; s++) {
            for (int day = 0; isLeft[s] && day < 64; day++) {
                ringing[day] += Signs.rings(Signs.ALL[s], 0, day) ? 1 : 0;
            }
            left += isLeft[s] ? 1 : 0;
        }
        for (int greater = (left + 1) / 2; greater < left; greater++) {
            for (int day = 0; day < 64; day++) {
                if (Math.max(ringing[day], left - ringing[day]) == greater) {
                    return day;
                }
            }
        }
        return Due.NONE;
    }

    /** A bell of each sign is watched on the day that is told, again and again, till one sign is left or none parts them. */
    private static void watch() {
        Due.says(29, "WATCH: of all DAYS (YESTERDAY empty) that for which signs that are left are parted most evenly (the greater"
            + " part least); of like ones the least; NONE: none parts them.");
        for (int first = 0; first < 64; first++) {
            for (int s = 0; s < Signs.ALL.length; s++) {
                TomorrowBells x = Due.town("bc0 0;");
                boolean[] isLeft = new boolean[Signs.ALL.length];
                Arrays.fill(isLeft, true);
                int day = first;
                for (int step = 0; step < 12 && day != Due.NONE; step++) {
                    int before = step == 0 ? 63 - first : 0;
                    boolean rang = Signs.rings(Signs.ALL[s], before, day);
                    x.see(0, rang, before, day);
                    for (int other = 0; other < Signs.ALL.length; other++) {
                        isLeft[other] &= Signs.rings(Signs.ALL[other], before, day) == rang;
                    }
                    day = dayToWatch(isLeft);
                    Due.is("watch(0) of sign " + Signs.ALL[s] + " from day " + first + " on, step " + step, x.watch(0), day);
                }
            }
        }
    }
}
