import java.util.LinkedHashMap;
import java.util.List;
import java.util.Map;
import java.util.function.Function;
import java.util.function.ToIntFunction;

/**
 * Each call changes what its promise says and nothing else. After the call one thing alone is looked at, then on a new
 * object the next: so what is looked at can't be changed by looking at others.
 */
final class ChangeEdges {
    private static final Map<String, Function<TomorrowBells, String>> SEEN_BY = new LinkedHashMap<>();

    static {
        SEEN_BY.put("fault", x -> "" + x.fault());
        SEEN_BY.put("text", x -> x.feed(';') + " " + x.town() + " " + x.fault() + " " + townOf(x));
        SEEN_BY.put("letters", x -> "" + x.told(5));
        SEEN_BY.put("town", ChangeEdges::townOf);
        SEEN_BY.put("clauses", x -> x.told(2) + " " + x.told(3) + " " + x.told(4));
        SEEN_BY.put("comes", ChangeEdges::comingOf);
        SEEN_BY.put("days", ChangeEdges::daysOf);
        SEEN_BY.put("which day", x -> "" + x.undo(0));
        SEEN_BY.put("deaf", x -> x.told(9) + " " + x.told(9));
        SEEN_BY.put("may", x -> x.told(10) + " " + x.told(10));
        SEEN_BY.put("who", ChangeEdges::whoOf);
        SEEN_BY.put("seen", ChangeEdges::seenOf);
        SEEN_BY.put("how much seen", x -> "" + x.tear());
        SEEN_BY.put("seed", x -> "" + x.seed(0));
        SEEN_BY.put("image 0", x -> x.goBack(0) == 1 ? courseOf(x) : "not kept");
        SEEN_BY.put("image 1", x -> x.goBack(1) == 1 ? courseOf(x) : "not kept");
    }

    private ChangeEdges() {
    }

    static void check() {
        madeWithoutLoss();
        theTown();
        days();
        tried();
        seen();
    }

    private static String townOf(TomorrowBells x) {
        StringBuilder all = new StringBuilder();
        for (int b = 0; b < 5; b++) {
            for (int what = 0; what < 4; what++) {
                all.append(x.bell(b, what)).append(' ');
            }
        }
        for (int g = 0; g < 6; g++) {
            for (int what = 0; what < 4; what++) {
                all.append(x.group(g, what)).append(' ');
            }
        }
        for (int h = 0; h < 6; h++) {
            all.append(x.harm(1 << h)).append(' ');
        }
        return all.toString();
    }

    private static String comingOf(TomorrowBells x) {
        StringBuilder all = new StringBuilder();
        for (int ring = 0; ring < 32; ring++) {
            all.append(x.comes(ring)).append(' ');
        }
        return all.toString();
    }

    private static String daysOf(TomorrowBells x) {
        StringBuilder all = new StringBuilder();
        for (int left = x.undo(0); left > 0; left = x.undo(1)) {
            all.append(x.told(7)).append(' ').append(x.told(8)).append(' ');
        }
        return all.append(x.told(8)).append(' ').append(x.yesterday(0)).toString();
    }

    private static String whoOf(TomorrowBells x) {
        StringBuilder all = new StringBuilder();
        for (int g = 0; g < 6; g++) {
            all.append(x.group(g, 4)).append(' ').append(x.group(g, 5)).append(' ');
        }
        return all.toString();
    }

    private static String courseOf(TomorrowBells x) {
        return whoOf(x) + x.seed(0) + " " + daysOf(x);
    }

    private static String seenOf(TomorrowBells x) {
        StringBuilder all = new StringBuilder();
        for (int b = 0; b < 5; b++) {
            for (int i = 0; i < 48; i++) {
                all.append(x.means(b, i)).append(' ');
            }
            all.append(x.bell(b, 4)).append(' ');
        }
        return all.toString();
    }

    /** The call may change what is named; all else must be as on a twin that was not called. */
    private static void changes(int promise, String words, List<String> named, String call, ToIntFunction<TomorrowBells> on) {
        Due.says(promise, words);
        for (String state : States.ALL) {
            for (Map.Entry<String, Function<TomorrowBells, String>> look : SEEN_BY.entrySet()) {
                if (!named.contains(look.getKey())) {
                    TomorrowBells x = States.make(state);
                    on.applyAsInt(x);
                    boolean same = look.getValue().apply(x).equals(look.getValue().apply(States.make(state)));
                    Due.holds(call + " of '" + state + "' leaves '" + look.getKey() + "' as it was", same);
                }
            }
        }
    }

    private static void asks(int promise, String call, ToIntFunction<TomorrowBells> on) {
        changes(promise, "nothing changes by it.", List.of(), call, on);
    }

    /** The states are made by feed, see, keep and others behind town(): what it told must be there still. */
    private static void madeWithoutLoss() {
        Due.says(5, "2 CAUSES, 3 STOPS, 4 'n',");
        for (String state : new String[] {"lived", "full"}) {
            TomorrowBells x = States.make(state);
            Due.is(state + " told(2)", x.told(2), 3);
            Due.is(state + " told(3)", x.told(3), 1);
            Due.is(state + " told(4)", x.told(4), 1);
        }
    }

    private static void theTown() {
        changes(2, "A letter (0 .. 255) comes behind THE TEXT", List.of("text", "letters"), "feed(59)", x -> x.feed(';'));
        List<String> text = List.of("text", "letters", "fault");
        changes(3, "its FAULT (all is as it was).", text, "town() with a fault", x -> x.feed('x') > 0 ? x.town() : 0);
        asks(4, "fault()", x -> x.fault());
        for (int w = 0; w <= 12; w++) {
            int what = w;
            asks(5, "told(" + what + ")", x -> x.told(what));
            asks(6, "bell(1, " + what + ")", x -> x.bell(1, what));
            asks(7, "group(1, " + what + ")", x -> x.group(1, what));
        }
        asks(8, "harm(3)", x -> x.harm(3));
    }

    private static void days() {
        List<String> lived = List.of("days", "which day", "comes");
        List<String> deaf = List.of("deaf", "who", "comes");
        asks(9, "ring(3)", x -> x.ring(3));
        asks(10, "done(1, 0)", x -> x.done(1, 0));
        asks(11, "comes(1)", x -> x.comes(1));
        asks(12, "could(NONE)", x -> x.could(Due.NONE));
        asks(12, "could(0)", x -> x.could(0));
        asks(13, "sure(0)", x -> x.sure(0));
        asks(13, "sure(1)", x -> x.sure(1));
        changes(14, "The i-th that COULD COME is LIVED", lived, "live(0)", x -> x.live(0));
        changes(15, "The last n days LIVED (0 .. 60) are undone", lived, "undo(1)", x -> x.undo(1));
        changes(15, "The last n days LIVED (0 .. 60) are undone", List.of(), "undo(0)", x -> x.undo(0));
        changes(16, "YESTERDAY becomes a DAY", List.of("days"), "yesterday(2)", x -> x.yesterday(2));
        changes(17, "A GROUP is DEAF, or is not", deaf, "deaf(0, true)", x -> x.deaf(0, true));
        changes(17, "A GROUP is DEAF, or is not", deaf, "deaf(1, false)", x -> x.deaf(1, false));
        changes(18, "A SET of GROUPS MAY act, no others", List.of("may", "who", "comes"), "may(4)", x -> x.may(4));
        changes(19, "n days (1 .. 60) BY DRAWS", List.of("days", "which day", "comes", "seed"), "drift(2)", x -> x.drift(2));
    }

    private static void tried() {
        for (int w = 0; w < 2; w++) {
            int what = w;
            asks(20, "rule(2, " + what + ")", x -> x.rule(2, what));
            asks(21, "hush(0, " + what + ")", x -> x.hush(0, what));
            asks(22, "run(" + what + ", 0)", x -> x.run(what, 0));
            asks(23, "takes(" + what + ")", x -> x.takes(what));
            asks(24, "wire(" + what + ", 2)", x -> x.wire(what, 2));
            asks(25, "answers(" + what + ")", x -> x.answers(what));
            asks(26, "send(9, " + what + ")", x -> x.send(9, what));
        }
    }

    private static void seen() {
        List<String> much = List.of("seen", "how much seen");
        List<String> course = List.of("days", "which day", "comes", "deaf", "may", "who", "seed");
        changes(27, "SEEN of a BELL: how much of it.", much, "see(1, true, 2, 3)", x -> x.see(1, true, 2, 3));
        asks(28, "means(0, NONE)", x -> x.means(0, Due.NONE));
        asks(28, "means(1, 0)", x -> x.means(1, 0));
        asks(29, "watch(0)", x -> x.watch(0));
        changes(30, "Nothing is SEEN", much, "tear()", x -> x.tear());
        changes(31, "THE SEED becomes v", List.of("seed"), "seed(5)", x -> x.seed(5));
        changes(32, "IMAGE i becomes what is so", List.of("image 0"), "keep(0)", x -> x.keep(0));
        changes(32, "IMAGE i becomes what is so", List.of("image 1"), "keep(1)", x -> x.keep(1));
        changes(33, "What is so becomes IMAGE i", course, "goBack(0)", x -> x.goBack(0));
        changes(33, "What is so becomes IMAGE i", course, "goBack(1)", x -> x.goBack(1));
    }
}
