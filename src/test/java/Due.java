/** Counts answers that are not as due, and feeds texts: what all tests of the project share. */
final class Due {
    static final int NONE = TomorrowBells.NONE;
    static final int UNKNOWN = TomorrowBells.UNKNOWN;
    static final int OUTSIDE = TomorrowBells.OUTSIDE;
    static final int NOT = TomorrowBells.NOT;
    static final int FULL = TomorrowBells.FULL;

    private static int wrong = 0;
    private static String sentence = "";

    private Due() {
    }

    static void is(String call, long got, long want) {
        if (got != want) {
            wrong++;
            System.out.println(sentence + call + " answered " + got + ", due is " + want);
        }
    }

    /** The calls that follow try these words of the document; a fault among them is told with the words. */
    static void says(int promise, String words) {
        sentence = "promise " + promise + ", '" + words + "': ";
        holds("to stand in the document", Doc.tries(promise, words));
    }

    static void holds(String what, boolean so) {
        is(what, so ? 1 : 0, 1);
    }

    static int wrongSoFar() {
        return wrong;
    }

    static void end() {
        System.out.println(wrong == 0 ? "all answers are as due" : wrong + " answers are not as due");
        System.exit(wrong == 0 ? 0 : 1);
    }

    static void feed(TomorrowBells x, String text) {
        for (int i = 0; i < text.length(); i++) {
            x.feed(text.charAt(i));
        }
    }

    /** A new object whose town is told by the text, which must be without a fault. */
    static TomorrowBells town(String text) {
        TomorrowBells x = new TomorrowBells();
        feed(x, text);
        int answer = x.town();
        if (answer < 0) {
            is("town() of " + text, answer, 0);
        }
        return x;
    }

    /** All that told, bell and group answer, and the next draw's seed: to see that a refusal changes nothing. */
    static String stateOf(TomorrowBells x) {
        StringBuilder all = new StringBuilder();
        for (int what = 0; what <= 12; what++) {
            all.append(x.told(what)).append(' ');
        }
        for (int b = 0; b < x.told(0); b++) {
            for (int what = 0; what <= 4; what++) {
                all.append(x.bell(b, what)).append(' ');
            }
        }
        for (int g = 0; g < x.told(1); g++) {
            for (int what = 0; what <= 5; what++) {
                all.append(x.group(g, what)).append(' ');
            }
        }
        int seed = x.seed(0);
        x.seed(seed);
        return all.append(seed).toString();
    }
}
