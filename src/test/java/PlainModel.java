import java.util.ArrayList;
import java.util.HashMap;
import java.util.List;
import java.util.Map;
import java.util.TreeSet;

/** The document once more, in its most literal and slowest form: every DAY is asked, every number is tried. */
final class PlainModel {
    private static final int NONE = -1, UNKNOWN = -1000000001, OUTSIDE = -1000000002, NOT = -1000000003, FULL = -1000000004;

    private String text = "";
    private int faultAt = NONE;
    private List<int[]> bells = new ArrayList<>(), groups = new ArrayList<>(), causes = new ArrayList<>();
    private List<int[]> stops = new ArrayList<>(), selves = new ArrayList<>();
    private Map<Integer, Integer> harms = new HashMap<>();
    private List<List<int[]>> seen = new ArrayList<>();
    private State now = new State();
    private final State[] images = new State[2];

    private static final class State {
        int first = 0;
        List<Integer> lived = new ArrayList<>();
        int harm = 0;
        TreeSet<Integer> deaf = new TreeSet<>();
        TreeSet<Integer> may = new TreeSet<>();
        long seed = 0;

        State copy() {
            State c = new State();
            c.first = first;
            c.lived = new ArrayList<>(lived);
            c.harm = harm;
            c.deaf = new TreeSet<>(deaf);
            c.may = new TreeSet<>(may);
            c.seed = seed;
            return c;
        }

        int yesterday() {
            return lived.isEmpty() ? first : lived.get(lived.size() - 1);
        }
    }

    private static int setOf(TreeSet<Integer> members) {
        int set = 0;
        for (int m : members) {
            set += 1 << m;
        }
        return set;
    }

    private static TreeSet<Integer> membersOf(int set) {
        TreeSet<Integer> members = new TreeSet<>();
        for (int k = 0; k < 31; k++) {
            if ((set & 1 << k) != 0) {
                members.add(k);
            }
        }
        return members;
    }

    // ---- the text: first parted into tokens {sign, value, place, figures}, then matched against clauses

    private static final int NUMBER = 1000, END = 1001;

    private static List<int[]> tokens(String text) {
        List<int[]> out = new ArrayList<>();
        int i = 0;
        while (i < text.length()) {
            char c = text.charAt(i);
            if (c == ' ') {
                i++;
            } else if (c >= '0' && c <= '9') {
                int j = i;
                while (j < text.length() && text.charAt(j) >= '0' && text.charAt(j) <= '9') {
                    j++;
                }
                String figures = text.substring(i, j);
                out.add(new int[] {NUMBER, figures.length() > 3 ? 99999 : Integer.parseInt(figures), i});
                i = j;
            } else {
                out.add(new int[] {c, 0, i});
                i++;
            }
        }
        out.add(new int[] {END, 0, text.length()});
        return out;
    }

    private static final class Fault extends RuntimeException {
        private static final long serialVersionUID = 1L;
        final int number;
        final int place;

        Fault(int number, int place) {
            this.number = number;
            this.place = place;
        }
    }

    private static int number(int[] token, int low, int high) {
        if (token[0] != NUMBER) {
            throw new Fault(1, token[2]);
        }
        if (token[1] < low || token[1] > high) {
            throw new Fault(2, token[2]);
        }
        return token[1];
    }

    private static int[] bounded(List<int[]> tokens, int at, int[]... bounds) {
        int[] values = new int[bounds.length];
        for (int i = 0; i < bounds.length; i++) {
            values[i] = number(tokens.get(at + i), bounds[i][0], bounds[i][1]);
        }
        int[] last = tokens.get(at + bounds.length);
        if (last[0] != ';') {
            throw new Fault(1, last[2]);
        }
        return values;
    }

    private static void tooMany(List<?> list, int most, int[] word) {
        if (list.size() >= most) {
            throw new Fault(3, word[2]);
        }
    }

    private static PlainModel parse(String text) {
        PlainModel m = new PlainModel();
        List<int[]> t = tokens(text);
        int i = 0;
        int[] six = {0, 5};
        int[] deed = {0, 6};
        while (t.get(i)[0] != END) {
            int[] word = t.get(i);
            switch (word[0]) {
                case 'b' -> {
                    tooMany(m.bells, 5, word);
                    int kind = t.get(i + 1)[0] < 256 ? "cmdky".indexOf(t.get(i + 1)[0]) : -1;
                    if (kind < 0) {
                        throw new Fault(1, t.get(i + 1)[2]);
                    }
                    int[] v = bounded(t, i + 2, six, six);
                    m.bells.add(new int[] {kind, v[0], v[1]});
                    m.seen.add(new ArrayList<>());
                    i += 5;
                }
                case 'g' -> {
                    tooMany(m.groups, 6, word);
                    m.groups.add(bounded(t, i + 1, new int[] {1, 99}, new int[] {0, m.bells.size() - 1}, deed, deed));
                    i += 6;
                }
                case 'r' -> {
                    tooMany(m.causes, 8, word);
                    m.causes.add(bounded(t, i + 1, six, six, new int[] {1, 999}));
                    i += 5;
                }
                case 's' -> {
                    tooMany(m.stops, 4, word);
                    m.stops.add(bounded(t, i + 1, six, six, new int[] {1, 999}));
                    i += 5;
                }
                case 'n' -> {
                    tooMany(m.selves, 3, word);
                    m.selves.add(bounded(t, i + 1, six, new int[] {1, 12}, new int[] {0, 11}));
                    i += 5;
                }
                case 'h' -> {
                    int h = number(t.get(i + 1), 0, 5);
                    if (m.harms.containsKey(h)) {
                        throw new Fault(4, t.get(i + 1)[2]);
                    }
                    int[] v = bounded(t, i + 1, six, new int[] {0, 99});
                    m.harms.put(h, v[1] - 50);
                    i += 4;
                }
                default -> throw new Fault(1, word[2]);
            }
        }
        return m;
    }

    int feed(int letter) {
        if (letter < 0 || letter > 255) {
            return OUTSIDE;
        }
        if (text.length() == 250) {
            return FULL;
        }
        text += (char) letter;
        return text.length();
    }

    int town() {
        String whole = text;
        text = "";
        try {
            PlainModel m = parse(whole);
            bells = m.bells;
            groups = m.groups;
            causes = m.causes;
            stops = m.stops;
            selves = m.selves;
            harms = m.harms;
            seen = m.seen;
            long seed = now.seed;
            now = new State();
            now.seed = seed;
            for (int g = 0; g < groups.size(); g++) {
                now.may.add(g);
            }
            images[0] = null;
            images[1] = null;
            faultAt = NONE;
            return bells.size();
        } catch (Fault f) {
            faultAt = f.place;
            return -10 - f.number;
        }
    }

    int fault() {
        return faultAt;
    }

    int told(int what) {
        int all = 0;
        for (List<int[]> s : seen) {
            all += s.size();
        }
        int[] answers = {bells.size(), groups.size(), causes.size(), stops.size(), selves.size(), text.length(),
            now.lived.size(), now.yesterday(), now.harm, setOf(now.deaf), setOf(now.may), all, fits(now, null).size()};
        return what < 0 || what >= answers.length ? OUTSIDE : answers[what];
    }

    private boolean noBell(int b) {
        return b < 0 || b >= bells.size();
    }

    private boolean noGroup(int g) {
        return g < 0 || g >= groups.size();
    }

    int bell(int b, int what) {
        if (noBell(b)) {
            return UNKNOWN;
        }
        if (what < 0 || what > 4) {
            return OUTSIDE;
        }
        if (what < 3) {
            return bells.get(b)[what];
        }
        return what == 4 ? seen.get(b).size() : groups.stream().filter(g -> g[1] == b).mapToInt(g -> g[0]).sum();
    }

    int group(int g, int what) {
        if (noGroup(g)) {
            return UNKNOWN;
        }
        if (what < 0 || what > 5) {
            return OUTSIDE;
        }
        if (what < 4) {
            return groups.get(g)[what];
        }
        return (what == 4 ? now.deaf : now.may).contains(g) ? 1 : 0;
    }

    int harm(int day) {
        if (day < 0 || day > 63) {
            return OUTSIDE;
        }
        return membersOf(day).stream().mapToInt(h -> harms.getOrDefault(h, 1)).sum();
    }

    // ---- days

    private static boolean isIn(int member, int set) {
        return (set & 1 << member) != 0;
    }

    private static boolean rings(int[] sign, int yesterday, int day) {
        int h = sign[1];
        int j = sign[2];
        return switch (sign[0]) {
            case 0 -> isIn(h, day);
            case 1 -> !isIn(h, day);
            case 2 -> isIn(h, day) && isIn(j, day);
            case 3 -> isIn(h, day) || isIn(j, day);
            default -> isIn(h, yesterday);
        };
    }

    private int ringOf(int yesterday, int day, int[] wire) {
        boolean[] rung = new boolean[bells.size()];
        for (int b = 0; b < rung.length; b++) {
            rung[b] = rings(bells.get(b), yesterday, day);
        }
        if (wire != null) {
            rung[wire[0]] = rung[wire[1]];
        }
        int set = 0;
        for (int b = 0; b < rung.length; b++) {
            set += rung[b] ? 1 << b : 0;
        }
        return set;
    }

    private int doing(State s, int ring, int deed) {
        int all = 0;
        for (int g = 0; g < groups.size(); g++) {
            int[] group = groups.get(g);
            int does;
            if (s.deaf.contains(g)) {
                does = group[3];
            } else if ((ring & 1 << group[1]) == 0) {
                does = group[3];
            } else if (!s.may.contains(g)) {
                does = 6;
            } else {
                does = group[2];
            }
            all += does == deed ? group[0] : 0;
        }
        return all;
    }

    private int coming(State s, int ring, int dayNumber) {
        TreeSet<Integer> come = new TreeSet<>();
        for (int[] c : causes) {
            if (doing(s, ring, c[1]) >= c[2]) {
                come.add(c[0]);
            }
        }
        for (int[] n : selves) {
            if (dayNumber % n[1] == n[2]) {
                come.add(n[0]);
            }
        }
        for (int[] c : stops) {
            if (doing(s, ring, c[1]) >= c[2]) {
                come.remove(c[0]);
            }
        }
        return setOf(come);
    }

    private List<Integer> fits(State s, int[] wire) {
        return fits(s, wire, s.yesterday(), s.lived.size());
    }

    private List<Integer> fits(State s, int[] wire, int yesterday, int dayNumber) {
        List<Integer> all = new ArrayList<>();
        for (int day = 0; day < 64; day++) {
            if (coming(s, ringOf(yesterday, day, wire), dayNumber) == day) {
                all.add(day);
            }
        }
        return all;
    }

    private List<Integer> couldCome(State s) {
        return couldCome(s, s.yesterday(), s.lived.size());
    }

    private List<Integer> couldCome(State s, int yesterday, int dayNumber) {
        List<Integer> all = fits(s, null, yesterday, dayNumber);
        return all.isEmpty() ? List.of(coming(s, 0, dayNumber)) : all;
    }

    int ring(int day) {
        return day < 0 || day > 63 ? OUTSIDE : ringOf(now.yesterday(), day, null);
    }

    private boolean noRing(int ring) {
        return ring < 0 || ring >= 1 << bells.size();
    }

    int done(int ring, int deed) {
        return noRing(ring) ? UNKNOWN : deed < 0 || deed > 5 ? OUTSIDE : doing(now, ring, deed);
    }

    int comes(int ring) {
        return noRing(ring) ? UNKNOWN : coming(now, ring, now.lived.size());
    }

    int could(int i) {
        List<Integer> all = couldCome(now);
        return i == NONE ? all.size() : i < 0 || i >= all.size() ? NONE : all.get(i);
    }

    int sure(int what) {
        if (what < 0 || what > 1) {
            return OUTSIDE;
        }
        int set = 0;
        for (int h = 0; h < 6; h++) {
            int bit = 1 << h;
            boolean so = couldCome(now).stream().allMatch(d -> (d & bit) != 0 == (what == 0));
            set += so ? bit : 0;
        }
        return set;
    }

    private void pass(int day) {
        now.lived.add(day);
        now.harm += harm(day);
    }

    int live(int i) {
        List<Integer> all = couldCome(now);
        if (i < 0 || i >= all.size()) {
            return OUTSIDE;
        }
        if (now.lived.size() == 60) {
            return FULL;
        }
        pass(all.get(i));
        return all.get(i);
    }

    int undo(int n) {
        if (n < 0 || n > 60 || n > now.lived.size()) {
            return OUTSIDE;
        }
        now.lived = new ArrayList<>(now.lived.subList(0, now.lived.size() - n));
        now.harm = now.lived.stream().mapToInt(this::harm).sum();
        return now.lived.size();
    }

    int yesterday(int day) {
        if (day < 0 || day > 63) {
            return OUTSIDE;
        }
        if (!now.lived.isEmpty()) {
            return NOT;
        }
        int was = now.first;
        now.first = day;
        return was;
    }

    int deaf(int g, boolean is) {
        if (noGroup(g)) {
            return UNKNOWN;
        }
        boolean was = now.deaf.remove(g);
        if (is) {
            now.deaf.add(g);
        }
        return was ? 1 : 0;
    }

    int may(int set) {
        if (set < 0 || set >= 1 << groups.size()) {
            return UNKNOWN;
        }
        int was = setOf(now.may);
        now.may = membersOf(set);
        return was;
    }

    int drift(int n) {
        if (n < 1 || n > 60) {
            return OUTSIDE;
        }
        if (n + now.lived.size() > 60) {
            return FULL;
        }
        int harm = 0;
        for (int i = 0; i < n; i++) {
            List<Integer> all = couldCome(now);
            now.seed = (now.seed * 1103515245L + 12345L) % 2147483648L;
            int day = all.get((int) (now.seed / 65536 % all.size()));
            harm += harm(day);
            pass(day);
        }
        return harm;
    }

    // ---- tried

    int rule(int k, int what) {
        if (k < 0 || k > 6 || what < 0 || what > 1) {
            return OUTSIDE;
        }
        int[] best = null;
        for (int size = 0; size <= k; size++) {
            for (int set = 0; set < 1 << groups.size(); set++) {
                if (Integer.bitCount(set) == size) {
                    State s = now.copy();
                    s.may = membersOf(set);
                    int greatest = couldCome(s).stream().mapToInt(this::harm).max().getAsInt();
                    if (best == null || greatest < best[0]) {
                        best = new int[] {greatest, set};
                    }
                }
            }
        }
        return best[what];
    }

    int hush(int h, int what) {
        if (h < 0 || h > 5 || what < 0 || what > 1) {
            return OUTSIDE;
        }
        for (int size = 0; size <= 6; size++) {
            for (int set = 0; set < 1 << groups.size(); set++) {
                if (Integer.bitCount(set) == size && (set & setOf(now.deaf)) == 0) {
                    State s = now.copy();
                    s.deaf.addAll(membersOf(set));
                    if (couldCome(s).stream().noneMatch(d -> (d & 1 << h) != 0)) {
                        return what == 0 ? size : set;
                    }
                }
            }
        }
        return NONE;
    }

    int run(int g, int h) {
        if (noGroup(g)) {
            return UNKNOWN;
        }
        if (h < 0 || h > 5) {
            return OUTSIDE;
        }
        int people = groups.get(g)[0];
        try {
            for (int more = 0; more <= 999; more++) {
                groups.get(g)[0] = people + more;
                if (couldCome(now).stream().allMatch(d -> (d & 1 << h) != 0)) {
                    return more;
                }
            }
            return NONE;
        } finally {
            groups.get(g)[0] = people;
        }
    }

    int takes(int part) {
        if (part < 0 || part > 1) {
            return OUTSIDE;
        }
        int above = couldCome(now).stream().mapToInt(this::harm).sum();
        int below = couldCome(now).size();
        for (int p = below; p > 1; p--) {
            if (above % p == 0 && below % p == 0) {
                above /= p;
                below /= p;
            }
        }
        return part == 0 ? above : below;
    }

    int wire(int a, int b) {
        return noBell(a) || noBell(b) || a == b ? UNKNOWN : fits(now, new int[] {a, b}).size();
    }

    int answers(int what) {
        if (what < 0 || what > 1) {
            return OUTSIDE;
        }
        int turn = 1;
        while (!dividedByAll(turn)) {
            turn++;
        }
        Map<String, Integer> stood = new HashMap<>();
        Map<String, Integer> next = new HashMap<>();
        int yesterday = now.yesterday();
        for (int i = 0;; i++) {
            int day = now.lived.size() + i;
            String key = yesterday + " " + day % turn;
            if (stood.containsKey(key)) {
                return what == 0 ? stood.get(key) : i - stood.get(key);
            }
            stood.put(key, i);
            int last = yesterday;
            yesterday = next.computeIfAbsent(last + " " + coming(now, 0, day) + " " + ofThemselves(day),
                k -> couldCome(now, last, day).get(0));
        }
    }

    private String ofThemselves(int day) {
        StringBuilder all = new StringBuilder();
        for (int[] n : selves) {
            all.append(day % n[1] == n[2]);
        }
        return all.toString();
    }

    private boolean dividedByAll(int number) {
        return selves.stream().allMatch(n -> number % n[1] == 0);
    }

    int send(int n, int h) {
        if (n < 0 || n > 99 || h < 0 || h > 5) {
            return OUTSIDE;
        }
        int[] times = new int[6];
        int all = 0;
        for (int day : couldCome(now)) {
            for (int x : membersOf(day)) {
                times[x]++;
                all++;
            }
        }
        if (all == 0) {
            return 0;
        }
        int[] sent = new int[6];
        int[] rest = new int[6];
        int left = n;
        for (int x = 0; x < 6; x++) {
            sent[x] = times[x] * n / all;
            rest[x] = times[x] * n - sent[x] * all;
            left -= sent[x];
        }
        while (left > 0) {
            int best = 0;
            for (int x = 1; x < 6; x++) {
                best = rest[x] > rest[best] ? x : best;
            }
            sent[best]++;
            rest[best] = -1;
            left--;
        }
        return sent[h];
    }

    // ---- what was seen

    int see(int b, boolean rang, int before, int day) {
        if (noBell(b)) {
            return UNKNOWN;
        }
        if (before < 0 || before > 63 || day < 0 || day > 63) {
            return OUTSIDE;
        }
        if (seen.get(b).size() == 12) {
            return FULL;
        }
        seen.get(b).add(new int[] {rang ? 1 : 0, before, day});
        return seen.get(b).size();
    }

    private List<int[]> signs(int b) {
        List<int[]> all = new ArrayList<>();
        for (int code = 0; code < 500; code++) {
            int[] sign = {code / 100, code / 10 % 10, code % 10};
            boolean two = sign[0] == 2 || sign[0] == 3;
            if (sign[1] <= 5 && sign[2] <= 5 && (two ? sign[2] > sign[1] : sign[2] == 0)
                && seen.get(b).stream().allMatch(s -> rings(sign, s[1], s[2]) == (s[0] == 1))) {
                all.add(sign);
            }
        }
        return all;
    }

    int means(int b, int i) {
        if (noBell(b)) {
            return UNKNOWN;
        }
        List<int[]> all = signs(b);
        if (i == NONE) {
            return all.size();
        }
        return i < 0 || i >= all.size() ? NONE : all.get(i)[0] * 100 + all.get(i)[1] * 10 + all.get(i)[2];
    }

    int watch(int b) {
        if (noBell(b)) {
            return UNKNOWN;
        }
        int best = NONE;
        int least = 1000;
        List<int[]> all = signs(b);
        for (int day = 0; day < 64; day++) {
            int on = day;
            int ring = (int) all.stream().filter(s -> rings(s, 0, on)).count();
            int not = all.size() - ring;
            if (ring > 0 && not > 0 && Math.max(ring, not) < least) {
                least = Math.max(ring, not);
                best = day;
            }
        }
        return best;
    }

    int tear() {
        int all = told(11);
        seen.forEach(List::clear);
        return all;
    }

    int seed(int v) {
        if (v < 0) {
            return OUTSIDE;
        }
        int was = (int) now.seed;
        now.seed = v;
        return was;
    }

    int keep(int i) {
        if (i != 0 && i != 1) {
            return UNKNOWN;
        }
        images[i] = now.copy();
        return 1;
    }

    int goBack(int i) {
        if (i != 0 && i != 1) {
            return UNKNOWN;
        }
        if (images[i] == null) {
            return NOT;
        }
        now = images[i].copy();
        return 1;
    }
}
