/** What can be asked of an object without changing it, as a text to compare. */
final class State {
    private State() {}

    /** The house, its lifts and people. */
    static String of(AllPressed x) {
        StringBuilder text = new StringBuilder();
        int top = x.count(0) - 1;
        int lifts = x.count(1);
        int people = x.count(2);
        text.append(top).append(' ').append(lifts).append(' ').append(people);
        for (int what : new int[] {3, 4, 5, 8}) text.append(' ').append(x.count(what));
        for (int l = 0; l < lifts; l++) {
            text.append("| lift");
            for (int what = 0; what < 7; what++) text.append(' ').append(x.lift(l, what));
            text.append(" stop ").append(x.stop(l, top, 2));
        }
        for (int p = 0; p < people; p++) {
            text.append("| person");
            for (int what = 0; what < 7; what++) text.append(' ').append(x.person(p, what));
            text.append(" foot ").append(x.foot(p, 0, top)).append(' ').append(x.foot(p, top, 0));
        }
        return text.append("| away ").append(x.away(0)).append(' ').append(x.away(1)).toString();
    }

    /** And what lies beside it: the tape, the fault, how many calls can be undone, how the trays judge. */
    static String whole(AllPressed x) {
        StringBuilder text = new StringBuilder(of(x)).append("| ").append(x.count(6)).append(' ').append(x.count(7));
        text.append("| fault ").append(x.fault(0)).append(' ').append(x.fault(1)).append("| trays");
        for (int tray = 0; tray < 4; tray++) {
            for (int what = 0; what < 4; what++) text.append(' ').append(x.judge(tray, what));
            text.append(" seen ").append(x.seen(tray, 0));
        }
        return text.toString();
    }

    /** And what it can still come to: each call undone, each image, the tape read. */
    static String toTheEnd(AllPressed x) {
        StringBuilder text = new StringBuilder(whole(x));
        for (int left = x.count(6); left > 0; left--) text.append("\nundone ").append(x.undo(1)).append(' ').append(of(x));
        for (int i = 0; i < 2; i++) text.append("\nimage ").append(x.restore(i)).append(' ').append(of(x));
        text.append("\nhouse ").append(x.house(x.count(7))).append(' ').append(x.fault(1)).append(' ').append(of(x));
        return text.toString();
    }
}
