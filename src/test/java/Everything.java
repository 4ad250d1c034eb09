/**
 * All that an object tells of itself, as one text. The object is used up by it: which days were lived, what images
 * hold and what THE TEXT is can be told in no other way. Two objects made alike are to be compared by it.
 */
final class Everything {
    private final TomorrowBells x;
    private final StringBuilder all = new StringBuilder();

    private Everything(TomorrowBells x) {
        this.x = x;
    }

    static String of(TomorrowBells x) {
        Everything e = new Everything(x);
        e.add("fault", x.fault());
        e.addTown();
        e.addSeen();
        e.addCourse();
        e.addImage(0);
        e.addImage(1);
        e.addText();
        return e.all.toString();
    }

    private void add(String name, int answer) {
        all.append(name).append(' ').append(answer).append('\n');
    }

    private void addTown() {
        for (int what = 0; what <= 12; what++) {
            add("told " + what, x.told(what));
        }
        for (int b = 0; b < x.told(0); b++) {
            for (int what = 0; what <= 4; what++) {
                add("bell " + b + " " + what, x.bell(b, what));
            }
        }
        for (int g = 0; g < x.told(1); g++) {
            for (int what = 0; what <= 5; what++) {
                add("group " + g + " " + what, x.group(g, what));
            }
        }
        for (int h = 0; h < 6; h++) {
            add("harm " + h, x.harm(1 << h));
        }
        for (int ring = 0; ring < 1 << x.told(0); ring++) {
            add("comes " + ring, x.comes(ring));
        }
        add("answers", x.answers(1));
    }

    private void addSeen() {
        for (int b = 0; b < x.told(0); b++) {
            add("means " + b, x.means(b, TomorrowBells.NONE));
            add("the first", x.means(b, 0));
            add("watch " + b, x.watch(b));
        }
    }

    /** Days are undone in steps that keep the calls on one object few. */
    private void addCourse() {
        int seed = x.seed(1);
        add("seed", seed);
        int step = x.told(6) > 12 ? 9 : 1;
        while (x.told(6) > 0) {
            add("yesterday", x.told(7));
            add("harm so far", x.told(8));
            x.undo(Math.min(step, x.told(6)));
        }
        add("yesterday at first", x.told(7));
        add("harm at first", x.told(8));
    }

    private void addImage(int i) {
        add("image " + i, x.goBack(i));
        for (int what = 6; what <= 10; what++) {
            add("told " + what, x.told(what));
        }
        addCourse();
    }

    private void addText() {
        add("letters", x.told(5));
        add("a blank", x.feed(' '));
        add("a figure", x.feed('2'));
        add("an end", x.feed(';'));
        add("town", x.town());
        add("fault", x.fault());
        addTown();
    }
}
