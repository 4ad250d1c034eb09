import java.util.Arrays;

/**
 * Bells that strike in the evening what happens on the next day. The words used here (DAY, RING, DEED, FITS ..)
 * are those of the document. A SET of happenings is an int; all DAYS that could come are a long, bit d for DAY d.
 */
public final class TomorrowBells {
    public static final int NONE = -1, UNKNOWN = -1000000001, OUTSIDE = -1000000002, NOT = -1000000003, FULL = -1000000004;

    private static final int MOST_LETTERS = 250;
    private static final int MOST_BELLS = 5;
    private static final int MOST_GROUPS = 6;
    private static final int MOST_CAUSES = 8;
    private static final int MOST_STOPS = 4;
    private static final int MOST_SELVES = 3;
    private static final int MOST_LIVED = 60;
    private static final int MOST_MORE = 999;
    private static final int MOST_HELPERS = 99;
    private static final int MOST_SEEN = 12;
    /** No DAY has less: all happenings, each of the least harm that can be told. */
    private static final int LEAST_HARM = -300;
    private static final int MOST_IMAGES = 2;

    private static final int HAPPENINGS = 6;
    private static final int DEEDS = 6;
    private static final int NO_DEED = 6;
    private static final int ALL_DAYS = 64;
    private static final int ALL_RINGS = 32;
    private static final int ALL_SIGNS = 48;

    private static final int CLEAN = 0;
    private static final int MUFFLED = 1;
    private static final int DOUBLE = 2;
    private static final int CRACKED = 3;
    private static final int OF_YESTERDAY = 4;
    private static final int KINDS = 5;
    private static final String KIND_LETTERS = "cmdky";

    private static final int CANNOT_STAND = 1;
    private static final int WRONG_NUMBER = 2;
    private static final int TOO_MANY = 3;
    private static final int TOLD_AGAIN = 4;

    /** For each happening all DAYS that hold it: counting days with it is then one mask and one bit count. */
    private static final long[] DAYS_WITH = {
        0xAAAAAAAAAAAAAAAAL, 0xCCCCCCCCCCCCCCCCL, 0xF0F0F0F0F0F0F0F0L,
        0xFF00FF00FF00FF00L, 0xFFFF0000FFFF0000L, 0xFFFFFFFF00000000L
    };

    private final Reader reader = new Reader();
    private final Course now = new Course();
    private final Course[] images = new Course[MOST_IMAGES];
    private final Sightings sightings = new Sightings();
    private final Trial trial = new Trial();
    private final Answering answering = new Answering();
    private Town here = new Town();
    /** A text is read into the spare town, so that a fault leaves this one as it was. */
    private Town spare = new Town();

    public TomorrowBells() {
        for (int i = 0; i < MOST_IMAGES; i++) {
            images[i] = new Course();
        }
    }

    // ---- the town

    public int feed(int letter) {
        if (letter < 0 || letter > 255) {
            return OUTSIDE;
        }
        return reader.append(letter) ? reader.letters() : FULL;
    }

    public int town() {
        int faultNumber = reader.readInto(spare);
        if (faultNumber != 0) {
            return -10 - faultNumber;
        }
        Town old = here;
        here = spare;
        spare = old;
        now.startAnew(here.allGroups());
        sightings.forgetAll();
        for (int i = 0; i < MOST_IMAGES; i++) {
            images[i].isKept = false;
        }
        return here.bells;
    }

    public int fault() {
        return reader.faultAt();
    }

    public int told(int what) {
        switch (what) {
            case 0: return here.bells;
            case 1: return here.groups;
            case 2: return here.causes.size();
            case 3: return here.stops.size();
            case 4: return here.selves;
            case 5: return reader.letters();
            case 6: return now.days;
            case 7: return now.dayBefore();
            case 8: return now.harmSoFar;
            case 9: return now.deafSet;
            case 10: return now.maySet;
            case 11: return sightings.countAll();
            case 12: return Long.bitCount(fittingDays(NONE, NONE));
            default: return OUTSIDE;
        }
    }

    public int bell(int b, int what) {
        if (!isBell(b)) {
            return UNKNOWN;
        }
        switch (what) {
            case 0: return here.kind[b];
            case 1: return here.first[b];
            case 2: return here.second[b];
            case 3: return here.hearersOf(b);
            case 4: return sightings.countOf(b);
            default: return OUTSIDE;
        }
    }

    public int group(int g, int what) {
        if (!isGroup(g)) {
            return UNKNOWN;
        }
        switch (what) {
            case 0: return here.people[g];
            case 1: return here.heard[g];
            case 2: return here.ifRung[g];
            case 3: return here.ifSilent[g];
            case 4: return now.deafSet >> g & 1;
            case 5: return now.maySet >> g & 1;
            default: return OUTSIDE;
        }
    }

    public int harm(int day) {
        return isDay(day) ? here.harmOf(day) : OUTSIDE;
    }

    // ---- days

    public int ring(int day) {
        return isDay(day) ? here.ringFor(now.dayBefore(), day) : OUTSIDE;
    }

    public int done(int ring, int deed) {
        if (!isRing(ring)) {
            return UNKNOWN;
        }
        if (deed < 0 || deed >= DEEDS) {
            return OUTSIDE;
        }
        trial.countDoing(here, ring, now.deafSet, now.maySet, NONE, 0);
        return trial.doing[deed];
    }

    public int comes(int ring) {
        if (!isRing(ring)) {
            return UNKNOWN;
        }
        supposeNow();
        return trial.comingBy(ring, here.comingOfItself(here.selvesOn(now.days)));
    }

    public int could(int i) {
        long days = possibleDays();
        return i == NONE ? Long.bitCount(days) : dayAt(days, i);
    }

    public int sure(int what) {
        if (!isChoice(what)) {
            return OUTSIDE;
        }
        long days = possibleDays();
        return what == 0 ? onAll(days) : onNone(days);
    }

    public int live(int i) {
        int day = dayAt(possibleDays(), i);
        if (day == NONE) {
            return OUTSIDE;
        }
        if (now.days >= MOST_LIVED) {
            return FULL;
        }
        now.pass(day, here.harmOf(day));
        return day;
    }

    public int undo(int n) {
        if (n < 0 || n > now.days) {
            return OUTSIDE;
        }
        for (int i = 0; i < n; i++) {
            now.takeBack(here.harmOf(now.dayBefore()));
        }
        return now.days;
    }

    public int yesterday(int day) {
        if (!isDay(day)) {
            return OUTSIDE;
        }
        if (now.days > 0) {
            return NOT;
        }
        int before = now.aheadOfAll;
        now.aheadOfAll = day;
        return before;
    }

    public int deaf(int g, boolean is) {
        if (!isGroup(g)) {
            return UNKNOWN;
        }
        int before = now.deafSet >> g & 1;
        now.deafSet = is ? now.deafSet | 1 << g : now.deafSet & ~(1 << g);
        return before;
    }

    public int may(int set) {
        if ((set & ~here.allGroups()) != 0) {
            return UNKNOWN;
        }
        int before = now.maySet;
        now.maySet = set;
        return before;
    }

    public int drift(int n) {
        if (n < 1 || n > MOST_LIVED) {
            return OUTSIDE;
        }
        if (now.days + n > MOST_LIVED) {
            return FULL;
        }
        int before = now.harmSoFar;
        supposeNow();
        for (int i = 0; i < n; i++) {
            long days = trial.possible(here, now.dayBefore(), here.selvesOn(now.days));
            int day = dayAt(days, now.draw(Long.bitCount(days)));
            now.pass(day, here.harmOf(day));
        }
        return now.harmSoFar - before;
    }

    // ---- tried

    public int rule(int k, int what) {
        if (k < 0 || k > MOST_GROUPS || !isChoice(what)) {
            return OUTSIDE;
        }
        int bestSet = 0;
        int bestHarm = greatestHarmIfMay(0);
        for (int set = 1; set <= here.allGroups(); set++) {
            int size = Integer.bitCount(set);
            if (size > k) {
                continue;
            }
            int harm = greatestHarmIfMay(set);
            if (harm < bestHarm || harm == bestHarm && size < Integer.bitCount(bestSet)) {
                bestHarm = harm;
                bestSet = set;
            }
        }
        return what == 0 ? bestHarm : bestSet;
    }

    public int hush(int h, int what) {
        if (!isHappening(h) || !isChoice(what)) {
            return OUTSIDE;
        }
        int best = NONE;
        int fewest = MOST_GROUPS + 1;
        for (int set = 0; set <= here.allGroups(); set++) {
            int size = Integer.bitCount(set);
            if ((set & now.deafSet) == 0 && size < fewest && isKeptOffIfDeaf(h, set)) {
                fewest = size;
                best = set;
            }
        }
        return best == NONE ? NONE : what == 0 ? fewest : best;
    }

    public int run(int g, int h) {
        if (!isGroup(g)) {
            return UNKNOWN;
        }
        if (!isHappening(h)) {
            return OUTSIDE;
        }
        // Between two numbers at which a cause or a stop is first met nothing changes: only those are tried.
        int more = 0;
        for (int tries = 0; tries <= MOST_MORE && more <= MOST_MORE; tries++) {
            trial.suppose(here, now.deafSet, now.maySet, g, more);
            if ((onAll(possibleAsSupposed()) >> h & 1) == 1) {
                return more;
            }
            more += trial.gap();
        }
        return NONE;
    }

    public int takes(int part) {
        if (!isChoice(part)) {
            return OUTSIDE;
        }
        long days = possibleDays();
        int above = 0;
        for (int h = 0; h < HAPPENINGS; h++) {
            above += here.harms[h] * timesComing(days, h);
        }
        int below = Long.bitCount(days);
        int common = Math.max(1, greatestDivisor(Math.abs(above), below));
        return (part == 0 ? above : below) / common;
    }

    public int wire(int a, int b) {
        if (!isBell(a) || !isBell(b) || a == b) {
            return UNKNOWN;
        }
        return Long.bitCount(fittingDays(a, b));
    }

    public int answers(int what) {
        if (!isChoice(what)) {
            return OUTSIDE;
        }
        supposeNow();
        answering.begin(here.turn(), now.days);
        int loop = answering.loopFrom(here, trial, now.dayBefore());
        return what == 1 ? loop : answering.leadFrom(here, trial, now.dayBefore(), loop);
    }

    public int send(int n, int h) {
        if (n < 0 || n > MOST_HELPERS || !isHappening(h)) {
            return OUTSIDE;
        }
        long days = possibleDays();
        int all = 0;
        for (int x = 0; x < HAPPENINGS; x++) {
            all += timesComing(days, x);
        }
        if (all <= 0) {
            return 0;
        }
        int wanted = timesComing(days, h) * n;
        int left = n;
        int ahead = 0;
        for (int x = 0; x < HAPPENINGS; x++) {
            int other = timesComing(days, x) * n;
            left -= other / all;
            if (other % all > wanted % all || other % all == wanted % all && x < h) {
                ahead++;
            }
        }
        return wanted / all + (ahead < left ? 1 : 0);
    }

    // ---- what was seen

    public int see(int b, boolean rang, int before, int day) {
        if (!isBell(b)) {
            return UNKNOWN;
        }
        if (!isDay(before) || !isDay(day)) {
            return OUTSIDE;
        }
        return sightings.add(b, rang, before, day) ? sightings.countOf(b) : FULL;
    }

    public int means(int b, int i) {
        if (!isBell(b)) {
            return UNKNOWN;
        }
        sightings.findSigns(b);
        return i == NONE ? sightings.signsLeft() : sightings.signAt(i);
    }

    public int watch(int b) {
        if (!isBell(b)) {
            return UNKNOWN;
        }
        sightings.findSigns(b);
        return sightings.dayThatParts();
    }

    public int tear() {
        int before = sightings.countAll();
        sightings.forgetAll();
        return before;
    }

    public int seed(int v) {
        if (v < 0) {
            return OUTSIDE;
        }
        int before = now.drawn;
        now.drawn = v;
        return before;
    }

    public int keep(int i) {
        if (i < 0 || i >= MOST_IMAGES) {
            return UNKNOWN;
        }
        images[i].becomeLike(now);
        images[i].isKept = true;
        return 1;
    }

    public int goBack(int i) {
        if (i < 0 || i >= MOST_IMAGES) {
            return UNKNOWN;
        }
        if (!images[i].isKept) {
            return NOT;
        }
        now.becomeLike(images[i]);
        return 1;
    }

    // ---- bounds

    private boolean isBell(int b) {
        return b >= 0 && b < here.bells;
    }

    private boolean isGroup(int g) {
        return g >= 0 && g < here.groups;
    }

    private boolean isRing(int ring) {
        return ring >= 0 && ring < here.countRings();
    }

    private static boolean isDay(int day) {
        return day >= 0 && day < ALL_DAYS;
    }

    private static boolean isHappening(int h) {
        return h >= 0 && h < HAPPENINGS;
    }

    private static boolean isChoice(int what) {
        return what == 0 || what == 1;
    }

    // ---- what could come

    private void supposeNow() {
        trial.suppose(here, now.deafSet, now.maySet, NONE, 0);
    }

    private long possibleAsSupposed() {
        return trial.possible(here, now.dayBefore(), here.selvesOn(now.days));
    }

    private long possibleDays() {
        supposeNow();
        return possibleAsSupposed();
    }

    private long fittingDays(int wired, int like) {
        supposeNow();
        return trial.fitting(here, now.dayBefore(), here.selvesOn(now.days), wired, like);
    }

    private int greatestHarmIfMay(int set) {
        trial.suppose(here, now.deafSet, set, NONE, 0);
        return here.greatestHarm(possibleAsSupposed());
    }

    private boolean isKeptOffIfDeaf(int h, int set) {
        trial.suppose(here, now.deafSet | set, now.maySet, NONE, 0);
        return timesComing(possibleAsSupposed(), h) == 0;
    }

    private static int timesComing(long days, int h) {
        return Long.bitCount(days & DAYS_WITH[h]);
    }

    private static int onAll(long days) {
        int set = 0;
        for (int h = 0; h < HAPPENINGS; h++) {
            if ((days & ~DAYS_WITH[h]) == 0L) {
                set |= 1 << h;
            }
        }
        return set;
    }

    private static int onNone(long days) {
        int set = 0;
        for (int h = 0; h < HAPPENINGS; h++) {
            if (timesComing(days, h) == 0) {
                set |= 1 << h;
            }
        }
        return set;
    }

    /** The i-th of the days by numbers, NONE if there are not so many. */
    private static int dayAt(long days, int i) {
        int passed = 0;
        for (int day = 0; day < ALL_DAYS; day++) {
            if ((days >>> day & 1L) == 1L) {
                if (passed == i) {
                    return day;
                }
                passed++;
            }
        }
        return NONE;
    }

    private static int greatestDivisor(int a, int b) {
        int greater = a;
        int lesser = b;
        // Euclid's steps on ints are fewer than fifty; the counter only makes the end plain.
        for (int steps = 0; steps < 100 && lesser > 0; steps++) {
            int rest = greater % lesser;
            greater = lesser;
            lesser = rest;
        }
        return greater;
    }

    /** Whether a bell of this sign rings for a day: one place for bells that are told and signs that are guessed. */
    private static boolean rings(int kind, int h, int j, int before, int day) {
        boolean first = (day >> h & 1) == 1;
        boolean second = (day >> j & 1) == 1;
        switch (kind) {
            case CLEAN: return first;
            case MUFFLED: return !first;
            case DOUBLE: return first && second;
            case CRACKED: return first || second;
            case OF_YESTERDAY: return (before >> h & 1) == 1;
            default: return false;
        }
    }

    /** What a text told. */
    private static final class Town {
        int bells;
        final int[] kind = new int[MOST_BELLS];
        final int[] first = new int[MOST_BELLS];
        final int[] second = new int[MOST_BELLS];
        int groups;
        final int[] people = new int[MOST_GROUPS];
        final int[] heard = new int[MOST_GROUPS];
        final int[] ifRung = new int[MOST_GROUPS];
        final int[] ifSilent = new int[MOST_GROUPS];
        final Thresholds causes = new Thresholds(MOST_CAUSES);
        final Thresholds stops = new Thresholds(MOST_STOPS);
        int selves;
        final int[] selfHappening = new int[MOST_SELVES];
        final int[] selfEvery = new int[MOST_SELVES];
        final int[] selfOver = new int[MOST_SELVES];
        final int[] harms = new int[HAPPENINGS];
        private int harmsTold;

        Town() {
            Arrays.fill(harms, 1);
        }

        void forgetAll() {
            bells = 0;
            groups = 0;
            causes.forgetAll();
            stops.forgetAll();
            selves = 0;
            Arrays.fill(harms, 1);
            harmsTold = 0;
        }

        void addBell(int ofKind, int h, int j) {
            if (bells < MOST_BELLS) {
                kind[bells] = ofKind;
                first[bells] = h;
                second[bells] = j;
                bells++;
            }
        }

        void addGroup(int n, int b, int d, int e) {
            if (groups < MOST_GROUPS) {
                people[groups] = n;
                heard[groups] = b;
                ifRung[groups] = d;
                ifSilent[groups] = e;
                groups++;
            }
        }

        void addSelf(int h, int every, int over) {
            if (selves < MOST_SELVES) {
                selfHappening[selves] = h;
                selfEvery[selves] = every;
                selfOver[selves] = over;
                selves++;
            }
        }

        boolean isHarmTold(int h) {
            return (harmsTold >> h & 1) == 1;
        }

        void tellHarm(int h, int value) {
            harms[h] = value;
            harmsTold |= 1 << h;
        }

        int allGroups() {
            return (1 << groups) - 1;
        }

        int countRings() {
            return 1 << bells;
        }

        int hearersOf(int b) {
            int all = 0;
            for (int g = 0; g < groups; g++) {
                if (heard[g] == b) {
                    all += people[g];
                }
            }
            return all;
        }

        int ringFor(int before, int day) {
            int ring = 0;
            for (int b = 0; b < bells; b++) {
                if (rings(kind[b], first[b], second[b], before, day)) {
                    ring |= 1 << b;
                }
            }
            return ring;
        }

        int deedOf(int g, int ring, int deafSet, int maySet) {
            boolean hears = (ring >> heard[g] & 1) == 1 && (deafSet >> g & 1) == 0;
            if (!hears) {
                return ifSilent[g];
            }
            return (maySet >> g & 1) == 1 ? ifRung[g] : NO_DEED;
        }

        /** Which of the 'n' clauses hold on a day, bit s for the s-th. */
        int selvesOn(int dayNumber) {
            int set = 0;
            for (int s = 0; s < selves; s++) {
                if (selfEvery[s] > 0 && dayNumber % selfEvery[s] == selfOver[s]) {
                    set |= 1 << s;
                }
            }
            return set;
        }

        int comingOfItself(int selvesSet) {
            int coming = 0;
            for (int s = 0; s < selves; s++) {
                if ((selvesSet >> s & 1) == 1) {
                    coming |= 1 << selfHappening[s];
                }
            }
            return coming;
        }

        /** The least number by which all Y of the 'n' clauses leave nothing over. */
        int turn() {
            int turn = 1;
            for (int s = 0; s < selves; s++) {
                int common = Math.max(1, greatestDivisor(turn, selfEvery[s]));
                turn = turn / common * selfEvery[s];
            }
            return turn;
        }

        int harmOf(int day) {
            int all = 0;
            for (int h = 0; h < HAPPENINGS; h++) {
                if ((day >> h & 1) == 1) {
                    all += harms[h];
                }
            }
            return all;
        }

        int greatestHarm(long days) {
            int greatest = LEAST_HARM;
            for (int day = 0; day < ALL_DAYS; day++) {
                if ((days >>> day & 1L) == 1L) {
                    greatest = Math.max(greatest, harmOf(day));
                }
            }
            return greatest;
        }
    }

    /** Causes or stops: each holds for its happening, if so many people do its deed. */
    private static final class Thresholds {
        private final int[] happening;
        private final int[] deed;
        private final int[] needed;
        private int count;

        Thresholds(int most) {
            happening = new int[Math.max(0, most)];
            deed = new int[Math.max(0, most)];
            needed = new int[Math.max(0, most)];
        }

        int size() {
            return count;
        }

        boolean isFull() {
            return count >= needed.length;
        }

        void forgetAll() {
            count = 0;
        }

        void add(int h, int d, int n) {
            if (!isFull()) {
                happening[count] = h;
                deed[count] = d;
                needed[count] = n;
                count++;
            }
        }

        int metBy(int[] doing) {
            int set = 0;
            for (int i = 0; i < count; i++) {
                if (doing[deed[i]] >= needed[i]) {
                    set |= 1 << happening[i];
                }
            }
            return set;
        }

        /** How many more must do the deed till one more is met; above MOST_MORE: no number that may be told. */
        int gapAbove(int ofDeed, int people) {
            int least = MOST_MORE + 1;
            for (int i = 0; i < count; i++) {
                if (deed[i] == ofDeed && needed[i] > people) {
                    least = Math.min(least, needed[i] - people);
                }
            }
            return least;
        }
    }

    /** THE TEXT, and its reading up to the first fault. */
    private static final class Reader {
        private final int[] text = new int[MOST_LETTERS];
        private int length;
        private int at;
        private int numberAt;
        private int faultNumber;
        private int faultLetter = NONE;

        int letters() {
            return length;
        }

        int faultAt() {
            return faultLetter;
        }

        boolean append(int letter) {
            if (length >= MOST_LETTERS) {
                return false;
            }
            text[length] = letter;
            length++;
            return true;
        }

        /** Reads the text into a town and empties it: the number of the fault, 0 if there is none. */
        int readInto(Town town) {
            town.forgetAll();
            at = 0;
            faultNumber = 0;
            faultLetter = NONE;
            skipBlanks();
            for (int clauses = 0; clauses < MOST_LETTERS && at < length && faultNumber == 0; clauses++) {
                readClause(town);
                skipBlanks();
            }
            length = 0;
            return faultNumber;
        }

        private void readClause(Town town) {
            int wordAt = at;
            int word = text[at];
            at++;
            switch (word) {
                case 'b': readBell(town, wordAt); break;
                case 'g': readGroup(town, wordAt); break;
                case 'r': readThreshold(town.causes, wordAt); break;
                case 's': readThreshold(town.stops, wordAt); break;
                case 'n': readSelf(town, wordAt); break;
                case 'h': readHarm(town); break;
                default: blame(CANNOT_STAND, wordAt); break;
            }
        }

        private void readBell(Town town, int wordAt) {
            if (town.bells >= MOST_BELLS) {
                blame(TOO_MANY, wordAt);
            }
            int kind = readKind();
            int h = readNumber(0, HAPPENINGS - 1);
            int j = readNumber(0, HAPPENINGS - 1);
            if (clauseEnds()) {
                town.addBell(kind, h, j);
            }
        }

        private void readGroup(Town town, int wordAt) {
            if (town.groups >= MOST_GROUPS) {
                blame(TOO_MANY, wordAt);
            }
            int n = readNumber(1, 99);
            int b = readNumber(0, town.bells - 1);
            int d = readNumber(0, NO_DEED);
            int e = readNumber(0, NO_DEED);
            if (clauseEnds()) {
                town.addGroup(n, b, d, e);
            }
        }

        private void readThreshold(Thresholds list, int wordAt) {
            if (list.isFull()) {
                blame(TOO_MANY, wordAt);
            }
            int h = readNumber(0, HAPPENINGS - 1);
            int d = readNumber(0, DEEDS - 1);
            int n = readNumber(1, 999);
            if (clauseEnds()) {
                list.add(h, d, n);
            }
        }

        private void readSelf(Town town, int wordAt) {
            if (town.selves >= MOST_SELVES) {
                blame(TOO_MANY, wordAt);
            }
            int h = readNumber(0, HAPPENINGS - 1);
            int every = readNumber(1, 12);
            int over = readNumber(0, 11);
            if (clauseEnds()) {
                town.addSelf(h, every, over);
            }
        }

        private void readHarm(Town town) {
            int h = readNumber(0, HAPPENINGS - 1);
            if (faultNumber == 0 && town.isHarmTold(h)) {
                blame(TOLD_AGAIN, numberAt);
            }
            int value = readNumber(0, 99);
            if (clauseEnds()) {
                town.tellHarm(h, value - 50);
            }
        }

        private int readKind() {
            skipBlanks();
            int kind = at < length ? KIND_LETTERS.indexOf((char) text[at]) : NONE;
            if (kind < 0) {
                blame(CANNOT_STAND, at);
                return CLEAN;
            }
            at++;
            return kind;
        }

        /** Behind a fault nothing that is read counts: the town that it goes into is never used. */
        private int readNumber(int least, int most) {
            skipBlanks();
            numberAt = at;
            int value = 0;
            while (at < length && text[at] >= '0' && text[at] <= '9') {
                if (at - numberAt < 3) {
                    value = value * 10 + (text[at] - '0');
                }
                at++;
            }
            if (at == numberAt) {
                blame(CANNOT_STAND, at);
            } else if (at - numberAt > 3 || value < least || value > most) {
                blame(WRONG_NUMBER, numberAt);
            }
            return value;
        }

        /** Takes the ';' of a clause: whether the clause stands whole, without a fault. */
        private boolean clauseEnds() {
            skipBlanks();
            if (at >= length || text[at] != ';') {
                blame(CANNOT_STAND, at);
            } else {
                at++;
            }
            return faultNumber == 0;
        }

        private void skipBlanks() {
            while (at < length && text[at] == ' ') {
                at++;
            }
        }

        /** Only the first fault counts: the text is read from its first letter on. */
        private void blame(int number, int letter) {
            if (faultNumber == 0) {
                faultNumber = number;
                faultLetter = letter;
            }
        }
    }

    /** What is so, apart from the town and what was seen: just what an image keeps. */
    private static final class Course {
        int aheadOfAll;
        private final int[] lived = new int[MOST_LIVED];
        int days;
        int harmSoFar;
        int deafSet;
        int maySet;
        int drawn;
        boolean isKept;

        void startAnew(int allGroups) {
            aheadOfAll = 0;
            days = 0;
            harmSoFar = 0;
            deafSet = 0;
            maySet = allGroups;
        }

        void becomeLike(Course other) {
            aheadOfAll = other.aheadOfAll;
            System.arraycopy(other.lived, 0, lived, 0, MOST_LIVED);
            days = other.days;
            harmSoFar = other.harmSoFar;
            deafSet = other.deafSet;
            maySet = other.maySet;
            drawn = other.drawn;
        }

        int dayBefore() {
            return days > 0 ? lived[days - 1] : aheadOfAll;
        }

        void pass(int day, int harm) {
            if (days < MOST_LIVED) {
                lived[days] = day;
                days++;
                harmSoFar += harm;
            }
        }

        void takeBack(int harm) {
            if (days > 0) {
                days--;
                harmSoFar -= harm;
            }
        }

        int draw(int n) {
            drawn = (int) ((drawn * 1103515245L + 12345L) & 0x7fffffffL);
            return n > 0 ? drawn / 65536 % n : 0;
        }
    }

    /** What would come, if others were deaf, might act, or were more: nothing of the object changes by it. */
    private static final class Trial {
        /** The last place takes those who do nothing. */
        final int[] doing = new int[DEEDS + 1];
        private final int[] caused = new int[ALL_RINGS];
        private final int[] stopped = new int[ALL_RINGS];
        private int gap;

        /** Finds for every RING what is caused and stopped; a group may be grown by some people more. */
        void suppose(Town town, int deafSet, int maySet, int grown, int more) {
            gap = MOST_MORE + 1;
            for (int ring = 0; ring < town.countRings() && ring < ALL_RINGS; ring++) {
                countDoing(town, ring, deafSet, maySet, grown, more);
                caused[ring] = town.causes.metBy(doing);
                stopped[ring] = town.stops.metBy(doing);
                if (grown != NONE) {
                    int deed = town.deedOf(grown, ring, deafSet, maySet);
                    gap = Math.min(gap, town.causes.gapAbove(deed, doing[deed]));
                    gap = Math.min(gap, town.stops.gapAbove(deed, doing[deed]));
                }
            }
        }

        /** By how many more the group must grow till by some RING a cause or a stop more is met. */
        int gap() {
            return gap;
        }

        void countDoing(Town town, int ring, int deafSet, int maySet, int grown, int more) {
            Arrays.fill(doing, 0);
            for (int g = 0; g < town.groups; g++) {
                doing[town.deedOf(g, ring, deafSet, maySet)] += town.people[g] + (g == grown ? more : 0);
            }
        }

        int comingBy(int ring, int ofItself) {
            return (caused[ring] | ofItself) & ~stopped[ring];
        }

        /** A DAY that fits is what comes by its own RING: so each RING is asked once, not each DAY. */
        long fitting(Town town, int before, int selvesSet, int wired, int like) {
            int ofItself = town.comingOfItself(selvesSet);
            long fits = 0L;
            for (int ring = 0; ring < town.countRings() && ring < ALL_RINGS; ring++) {
                int day = comingBy(ring, ofItself);
                if (wireUp(town.ringFor(before, day), wired, like) == ring) {
                    fits |= 1L << day;
                }
            }
            return fits;
        }

        long possible(Town town, int before, int selvesSet) {
            long fits = fitting(town, before, selvesSet, NONE, NONE);
            return fits != 0L ? fits : 1L << comingBy(0, town.comingOfItself(selvesSet));
        }

        private static int wireUp(int ring, int wired, int like) {
            if (wired == NONE || like == NONE) {
                return ring;
            }
            return ring & ~(1 << wired) | (ring >> like & 1) << wired;
        }
    }

    /** Days of which each is the first that could come behind the one before. */
    private static final class Answering {
        /** What follows hangs on the 'n' clauses that hold and on YESTERDAY alone: so it is found once. */
        private final int[] following = new int[(1 << MOST_SELVES) * ALL_DAYS];
        private final int[] turnOf = new int[ALL_DAYS];
        private int firstDay;
        private int turn;

        void begin(int turnOfDays, int fromDay) {
            turn = turnOfDays;
            firstDay = fromDay;
            Arrays.fill(following, NONE);
        }

        /** The day's remainder comes again after a turn, not sooner: so only whole turns are looked at. */
        int loopFrom(Town town, Trial trial, int before) {
            Arrays.fill(turnOf, NONE);
            int last = before;
            for (int turns = 0; turns <= ALL_DAYS; turns++) {
                if (turnOf[last] != NONE) {
                    return (turns - turnOf[last]) * turn;
                }
                turnOf[last] = turns;
                for (int i = 0; i < turn; i++) {
                    last = follow(town, trial, last, firstDay + i);
                }
            }
            return 0;
        }

        /** Two walk, one of them a loop ahead: where they first meet, the loop begins. */
        int leadFrom(Town town, Trial trial, int before, int loop) {
            int ahead = before;
            for (int i = 0; i < loop; i++) {
                ahead = follow(town, trial, ahead, firstDay + i);
            }
            int behind = before;
            int lead = 0;
            while (lead < ALL_DAYS * turn && behind != ahead) {
                behind = follow(town, trial, behind, firstDay + lead);
                ahead = follow(town, trial, ahead, firstDay + lead);
                lead++;
            }
            return lead;
        }

        private int follow(Town town, Trial trial, int before, int dayNumber) {
            int selvesSet = town.selvesOn(dayNumber);
            int place = selvesSet * ALL_DAYS + before;
            if (following[place] == NONE) {
                following[place] = dayAt(trial.possible(town, before, selvesSet), 0);
            }
            return following[place];
        }
    }

    /** What was seen of bells, and the signs that it leaves. */
    private static final class Sightings {
        private final int[] count = new int[MOST_BELLS];
        private final boolean[] rang = new boolean[MOST_BELLS * MOST_SEEN];
        private final int[] before = new int[MOST_BELLS * MOST_SEEN];
        private final int[] day = new int[MOST_BELLS * MOST_SEEN];
        private final int[] signs = new int[ALL_SIGNS];
        private int left;

        int countOf(int b) {
            return count[b];
        }

        int countAll() {
            int all = 0;
            for (int b = 0; b < MOST_BELLS; b++) {
                all += count[b];
            }
            return all;
        }

        void forgetAll() {
            Arrays.fill(count, 0);
        }

        boolean add(int b, boolean itRang, int dayBefore, int onDay) {
            if (count[b] >= MOST_SEEN) {
                return false;
            }
            int place = b * MOST_SEEN + count[b];
            rang[place] = itRang;
            before[place] = dayBefore;
            day[place] = onDay;
            count[b]++;
            return true;
        }

        void findSigns(int b) {
            left = 0;
            for (int kind = 0; kind < KINDS; kind++) {
                boolean ofTwo = kind == DOUBLE || kind == CRACKED;
                for (int h = 0; h < HAPPENINGS; h++) {
                    for (int j = ofTwo ? h + 1 : 0; j < (ofTwo ? HAPPENINGS : 1); j++) {
                        if (agrees(b, kind, h, j) && left < ALL_SIGNS) {
                            signs[left] = 100 * kind + 10 * h + j;
                            left++;
                        }
                    }
                }
            }
        }

        private boolean agrees(int b, int kind, int h, int j) {
            for (int i = 0; i < count[b]; i++) {
                int place = b * MOST_SEEN + i;
                if (rings(kind, h, j, before[place], day[place]) != rang[place]) {
                    return false;
                }
            }
            return true;
        }

        int signsLeft() {
            return left;
        }

        int signAt(int i) {
            return i >= 0 && i < left ? signs[i] : NONE;
        }

        /** Of the days that part the signs found that whose greater part is least, NONE if no day parts them. */
        int dayThatParts() {
            int best = NONE;
            int least = left;
            for (int onDay = 0; onDay < ALL_DAYS; onDay++) {
                int ringing = countRinging(onDay);
                int greater = Math.max(ringing, left - ringing);
                if (greater < least) {
                    least = greater;
                    best = onDay;
                }
            }
            return best;
        }

        private int countRinging(int onDay) {
            int ringing = 0;
            for (int i = 0; i < left; i++) {
                if (rings(signs[i] / 100, signs[i] / 10 % 10, signs[i] % 10, 0, onDay)) {
                    ringing++;
                }
            }
            return ringing;
        }
    }
}
