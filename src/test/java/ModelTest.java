import java.util.Random;

/** Random runs of calls, on the class and on the plain model side by side; the seeds are fixed. */
public final class ModelTest {
    private static final int RUNS = 80;
    private static final int CALLS = 240;

    private final Random random;
    private final TomorrowBells x = new TomorrowBells();
    private final PlainModel m = new PlainModel();
    private final StringBuilder calls = new StringBuilder();
    private int bells;
    private int groups;

    private ModelTest(long seed) {
        random = new Random(seed);
    }

    public static void main(String[] args) {
        int runs = args.length > 0 ? Integer.parseInt(args[0]) : RUNS;
        long from = args.length > 1 ? Long.parseLong(args[1]) : 0;
        for (int run = 0; run < runs && Due.wrongSoFar() == 0; run++) {
            ModelTest t = new ModelTest(from + run);
            t.go();
            if (Due.wrongSoFar() > 0) {
                System.out.println("run " + (from + run) + ":" + t.calls);
            }
        }
        Due.end();
    }

    private void go() {
        tell(townText());
        for (int tries = 0; tries < 4 && groups == 0; tries++) {
            tell(townText());
        }
        for (int i = 0; i < CALLS && Due.wrongSoFar() == 0; i++) {
            if (random.nextInt(150) == 0) {
                tell(random.nextInt(2) == 0 ? spoiled(townText()) : townText());
            } else {
                call();
            }
        }
        for (int i = 0; i < 6 && Due.wrongSoFar() == 0; i++) {
            tell(spoiled(townText()));
        }
    }

    private int up(int n) {
        return random.nextInt(n);
    }

    /** Mostly within the bounds, sometimes a step or far outside. */
    private int near(int low, int high) {
        switch (up(24)) {
            case 0: return low - 1;
            case 1: return high + 1;
            case 2: return up(2) == 0 ? Integer.MIN_VALUE : Integer.MAX_VALUE;
            default: return low > high ? low : low + up(high - low + 1);
        }
    }

    private String blank() {
        return up(20) == 0 ? "  " : "";
    }

    private String clause(String word, int... numbers) {
        StringBuilder s = new StringBuilder(word).append(blank());
        for (int i = 0; i < numbers.length; i++) {
            s.append(i > 0 ? " " : "").append(blank()).append(up(30) == 0 ? "0" : "").append(numbers[i]).append(blank());
        }
        return s.append(";").append(blank()).toString();
    }

    /** A cause or a stop that hangs on what a group does: so that rings come true, or keep themselves off. */
    private String threshold(String word, int[][] bell, int[][] group) {
        if (group.length == 0 || up(5) == 0) {
            return clause(word, up(6), up(6), 1 + up(up(6) == 0 ? 999 : 40));
        }
        int[] g = group[up(group.length)];
        int deed = g[2 + up(2)] % 6;
        int h = up(3) > 0 ? bell[g[1]][up(4) / 3] : up(6);
        int needed = g[0] + (up(2) == 0 ? 0 : group[up(group.length)][0]) - up(4) + up(3);
        return clause(word, h, deed, Math.max(1, needed + (up(12) == 0 ? up(900) : 0)));
    }

    private String townText() {
        StringBuilder s = new StringBuilder();
        int[][] bell = new int[up(12) == 0 ? 0 : up(3) == 0 ? 5 : 1 + up(5)][];
        int[][] group = new int[bell.length == 0 ? 0 : up(3) == 0 ? 6 : up(7)][];
        String kinds = up(3) == 0 ? "ccck" : up(3) == 0 ? "cy" : "cmdkyc";
        int same = up(6);
        int wide = 2 + up(5);
        for (int b = 0; b < bell.length; b++) {
            bell[b] = new int[] {up(3) == 0 ? b : up(wide), up(6)};
            s.append(clause("b" + kinds.charAt(up(kinds.length())), bell[b]));
        }
        for (int g = 0; g < group.length; g++) {
            int people = 1 + up(up(4) == 0 ? 99 : 12);
            group[g] = new int[] {people, up(bell.length), up(6) == 0 ? 6 : up(3) == 0 ? same : up(6), up(2) == 0 ? 6 : up(6)};
            s.append(clause("g", group[g]));
        }
        for (int i = up(4) == 0 ? up(9) : group.length; i > 0; i--) {
            s.append(threshold("r", bell, group));
        }
        for (int i = up(2) == 0 ? 0 : up(5); i > 0; i--) {
            s.append(threshold("s", bell, group));
        }
        for (int i = up(2) == 0 ? 0 : up(4); i > 0; i--) {
            int every = 1 + up(12);
            s.append(clause("n", up(6), every, up(12) == 0 ? up(12) : up(every)));
        }
        for (int h = 0; h < 6; h++) {
            if (up(2) == 0) {
                s.append(clause("h", h, up(100)));
            }
        }
        return s.length() > 250 && up(8) > 0 ? s.substring(0, s.lastIndexOf(";", 249) + 1) : s.toString();
    }

    /** One to three letters put in, taken out or changed. */
    private String spoiled(String text) {
        StringBuilder s = new StringBuilder(text);
        String letters = "bgrsnhcmdky;;  0123456789999x";
        for (int i = 1 + up(3); i > 0; i--) {
            int at = up(s.length() + 1);
            char c = up(40) == 0 ? (char) up(256) : letters.charAt(up(letters.length()));
            switch (up(4)) {
                case 0 -> s.insert(at, c);
                case 1 -> s.append(text, 0, text.indexOf(";", up(text.length() + 1)) + 1);
                case 2 -> s.delete(at, Math.min(s.length(), at + 1));
                default -> {
                    s.delete(at, Math.min(s.length(), at + 1));
                    s.insert(at, c);
                }
            }
        }
        return s.toString();
    }

    private void due(String call, int got, int want) {
        calls.append('\n').append(call).append(" -> ").append(got);
        Due.is(call, got, want);
    }

    private void tell(String text) {
        if (m.told(5) > 0 && up(8) > 0) {
            due("town()", x.town(), m.town());
        }
        for (int i = 0; i < text.length(); i++) {
            due("feed(" + text.charAt(i) + ")", x.feed(text.charAt(i)), m.feed(text.charAt(i)));
        }
        due("town()", x.town(), m.town());
        due("fault()", x.fault(), m.fault());
        bells = m.told(0);
        groups = m.told(1);
        for (int what = -1; what <= 13; what++) {
            due("told(" + what + ")", x.told(what), m.told(what));
        }
    }

    private void call() {
        int b = near(0, bells - 1);
        int g = near(0, groups - 1);
        int h = near(0, 5);
        int day = near(0, 63);
        int what = near(0, 1);
        int i = near(-1, 3);
        int ring = near(0, (1 << bells) - 1);
        int set = near(0, (1 << groups) - 1);
        boolean is = random.nextBoolean();
        int n = near(0, up(3) == 0 ? 60 : 4);
        switch (up(36)) {
            case 0 -> { int w = near(0, 12); due("told " + w, x.told(w), m.told(w)); }
            case 1 -> { int w = near(0, 4); due("bell " + b + " " + w, x.bell(b, w), m.bell(b, w)); }
            case 2 -> { int w = near(0, 5); due("group " + g + " " + w, x.group(g, w), m.group(g, w)); }
            case 3 -> due("harm " + day, x.harm(day), m.harm(day));
            case 4 -> due("ring " + day, x.ring(day), m.ring(day));
            case 5 -> due("done " + ring + " " + h, x.done(ring, h), m.done(ring, h));
            case 6 -> due("comes " + ring, x.comes(ring), m.comes(ring));
            case 7 -> due("could " + i, x.could(i), m.could(i));
            case 8 -> due("sure " + what, x.sure(what), m.sure(what));
            case 9, 10, 11 -> due("live " + i, x.live(i), m.live(i));
            case 12 -> due("undo " + n, x.undo(n), m.undo(n));
            case 13 -> due("yesterday " + day, x.yesterday(day), m.yesterday(day));
            case 14 -> due("deaf " + g + " " + is, x.deaf(g, is), m.deaf(g, is));
            case 15 -> due("may " + set, x.may(set), m.may(set));
            case 16 -> due("drift " + n, x.drift(n), m.drift(n));
            case 17, 18 -> { int k = near(0, 6); due("rule " + k + " " + what, x.rule(k, what), m.rule(k, what)); }
            case 19, 20 -> due("hush " + h + " " + what, x.hush(h, what), m.hush(h, what));
            case 21 -> due("run " + g + " " + h, x.run(g, h), m.run(g, h));
            case 22 -> due("takes " + what, x.takes(what), m.takes(what));
            case 23 -> { int a = near(0, bells - 1); due("wire " + a + " " + b, x.wire(a, b), m.wire(a, b)); }
            case 24, 25 -> due("answers " + what, x.answers(what), m.answers(what));
            case 26 -> { int k = near(0, 99); due("send " + k + " " + h, x.send(k, h), m.send(k, h)); }
            case 27, 28 -> { int before = near(0, 63); boolean so = up(4) == 0 ? is : x.ring(day & 63) >> (b & 7) % 8 % 2 == 1;
                due("see " + b + " " + so + " " + before + " " + day, x.see(b, so, before, day), m.see(b, so, before, day)); }
            case 29 -> { int k = near(-1, up(2) == 0 ? 48 : 5); due("means " + b + " " + k, x.means(b, k), m.means(b, k)); }
            case 30 -> due("watch " + b, x.watch(b), m.watch(b));
            case 31 -> { if (up(5) == 0) { due("tear", x.tear(), m.tear()); } }
            case 32 -> { int v = up(2) == 0 ? random.nextInt() : near(0, 9); due("seed " + v, x.seed(v), m.seed(v)); }
            case 33 -> due("keep " + what, x.keep(what), m.keep(what));
            case 34 -> due("goBack " + what, x.goBack(what), m.goBack(what));
            default -> { int letter = near(0, 255); due("feed " + letter, x.feed(letter), m.feed(letter)); }
        }
    }
}
