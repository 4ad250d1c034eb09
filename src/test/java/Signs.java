/** The signs that a bell may have, in the document's order, and when they ring. */
final class Signs {
    static final int[] ALL = {
        0, 10, 20, 30, 40, 50, 100, 110, 120, 130, 140, 150,
        201, 202, 203, 204, 205, 212, 213, 214, 215, 223, 224, 225, 234, 235, 245,
        301, 302, 303, 304, 305, 312, 313, 314, 315, 323, 324, 325, 334, 335, 345,
        400, 410, 420, 430, 440, 450
    };

    private Signs() {
    }

    /** Also of signs that are told but never guessed: any J behind any H. */
    static boolean rings(int sign, int before, int day) {
        boolean h = (day >> sign / 10 % 10 & 1) == 1;
        boolean j = (day >> sign % 10 & 1) == 1;
        switch (sign / 100) {
            case 0: return h;
            case 1: return !h;
            case 2: return h && j;
            case 3: return h || j;
            default: return (before >> sign / 10 % 10 & 1) == 1;
        }
    }
}
