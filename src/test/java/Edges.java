/**
 * Calls at the edges of the document: each is made in a world of its own, and behind one that is refused all
 * that can be seen is as it is without it.
 */
final class Edges {
    interface World {
        void make(RaftRivers x);
    }

    interface Call {
        int on(RaftRivers x);
    }

    interface Ask {
        boolean on(RaftRivers x);
    }

    interface Numbered {
        int on(RaftRivers x, int n);
    }

    interface NumberedAsk {
        boolean on(RaftRivers x, int n);
    }

    static final int NONE = RaftRivers.NONE;
    static final int LEAST = Integer.MIN_VALUE;
    static final int MOST = Integer.MAX_VALUE;

    private final Due due;
    private World world;
    private Seen withoutCall;

    Edges(Due due) {
        this.due = due;
    }

    /** What follows is about this sentence, and in this world. */
    void in(String sentence, World made) {
        due.part(sentence);
        world = made;
        withoutCall = null;
    }

    private RaftRivers made() {
        RaftRivers x = new RaftRivers();
        world.make(x);
        return x;
    }

    private RaftRivers madeAnd(Call call) {
        RaftRivers x = made();
        call.on(x);
        return x;
    }

    void is(String name, int want, Call call) {
        due.is(name, call.on(made()), want);
    }

    void yes(String name, Ask ask) {
        due.yes(name, ask.on(made()));
    }

    /** It answers so, and changes nothing. */
    void same(String name, int want, Call call) {
        is(name, want, call);
        if (withoutCall == null) {
            withoutCall = new Seen(this::made);
        }
        String difference = new Seen(() -> madeAnd(call)).difference(withoutCall);
        due.yes(name + " changes nothing, but " + difference, difference == null);
    }

    void none(String name, Call call) {
        same(name, NONE, call);
    }

    void no(String name, Ask ask) {
        same(name, 0, x -> ask.on(x) ? 1 : 0);
    }

    /** Both ends are taken, with this answer; what is beside them is refused. */
    void span(String name, int least, int most, int want, Numbered call) {
        is(name + " " + least, want, x -> call.on(x, least));
        is(name + " " + most, want, x -> call.on(x, most));
        none(name + " " + (least - 1), x -> call.on(x, least - 1));
        none(name + " " + (most + 1), x -> call.on(x, most + 1));
    }

    /** As span, and the smallest and the greatest int are refused, too. */
    void range(String name, int least, int most, int want, Numbered call) {
        span(name, least, most, want, call);
        farNone(name, call);
    }

    void rangeAsk(String name, int least, int most, NumberedAsk call) {
        yes(name + " " + least, x -> call.on(x, least));
        yes(name + " " + most, x -> call.on(x, most));
        no(name + " " + (least - 1), x -> call.on(x, least - 1));
        no(name + " " + (most + 1), x -> call.on(x, most + 1));
        farNo(name, call);
    }

    /** Of a number that came: there is none below 0, and none such as didn't come yet. */
    void noneSuch(String name, int came, Numbered call) {
        none(name + " -1", x -> call.on(x, -1));
        none(name + " " + came, x -> call.on(x, came));
        farNone(name, call);
    }

    void noSuch(String name, int came, NumberedAsk call) {
        no(name + " -1", x -> call.on(x, -1));
        no(name + " " + came, x -> call.on(x, came));
        farNo(name, call);
    }

    private void farNone(String name, Numbered call) {
        none(name + ", the smallest int", x -> call.on(x, LEAST));
        none(name + ", the greatest int", x -> call.on(x, MOST));
    }

    private void farNo(String name, NumberedAsk call) {
        no(name + ", the smallest int", x -> call.on(x, LEAST));
        no(name + ", the greatest int", x -> call.on(x, MOST));
    }
}
