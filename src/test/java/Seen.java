import java.util.ArrayList;
import java.util.List;
import java.util.function.Supplier;

/**
 * All that an object answers to those that ask, and what it answers on a few ways on. An object is good for
 * 512 calls only, so each look is at an object of its own, made alike in at most 400 calls.
 */
final class Seen {
    private static final int MOST_ASKS = 100;
    private static final int[] NEAR_STATIONS = {0, 1, 2, 3};

    private final Supplier<RaftRivers> source;
    private final List<String> names = new ArrayList<>();
    private final List<Integer> answers = new ArrayList<>();
    private RaftRivers asked;
    private int asks = MOST_ASKS;

    Seen(Supplier<RaftRivers> source) {
        this.source = source;
        tells();
        nextNumbers();
        boundRow();
        longerRow();
        raftsByHour();
        pondsByHour();
        crewsByHour();
        allReady();
        sold(0);
        sold(1);
        sold(20);
        lawsLeft();
    }

    /** The first answer that isn't alike; null if all are. */
    String difference(Seen other) {
        for (int i = 0; i < Math.max(names.size(), other.names.size()); i++) {
            if (i >= names.size() || i >= other.names.size()) {
                return "more is seen";
            }
            if (!names.get(i).equals(other.names.get(i)) || !answers.get(i).equals(other.answers.get(i))) {
                return names.get(i) + ": " + answers.get(i) + ", and without the call " + other.names.get(i) + ": "
                    + other.answers.get(i);
            }
        }
        return null;
    }

    private void add(String name, int answer) {
        names.add(name);
        answers.add(answer);
    }

    private void add(String name, boolean answer) {
        add(name, answer ? 1 : 0);
    }

    /** An object to be asked what changes nothing. */
    private RaftRivers ask() {
        if (asks >= MOST_ASKS) {
            asked = source.get();
            asks = 0;
        }
        asks++;
        return asked;
    }

    private void tells() {
        for (int what = 0; what < 8; what++) {
            add("count(" + what + ")", ask().count(what));
        }
        for (int station = 0; station < ask().count(1); station++) {
            add("pond of " + station, ask().count(100 + station));
            for (int k = 0; k < 5; k++) {
                add("best(" + station + ", " + k + ")", ask().best(station, k));
                add("passes(" + station + ", " + k + ")", ask().passes(station, k));
            }
        }
        for (int owner = 0; owner < 8; owner++) {
            add("balance(" + owner + ")", ask().balance(owner));
        }
        tellsOfAll();
    }

    private void tellsOfAll() {
        for (int trunk = 0; trunk < ask().count(2); trunk++) {
            for (int what = 0; what < 8; what++) {
                add("told(" + trunk + ", " + what + ")", ask().told(trunk, what));
            }
            add("find", ask().find(ask().told(trunk, 0)));
        }
        for (int raft = 0; raft < ask().count(3); raft++) {
            for (int what = 0; what < 7; what++) {
                add("raft(" + raft + ", " + what + ")", ask().raft(raft, what));
            }
        }
        for (int crew = 0; crew < ask().count(4); crew++) {
            for (int what = 0; what < 4; what++) {
                add("crewed(" + crew + ", " + what + ")", ask().crewed(crew, what));
            }
        }
    }

    private void nextNumbers() {
        RaftRivers x = source.get();
        add("the next trunk", x.trunk(99998, 1, 0));
        add("the next crew", x.crew(0));
        add("the next raft", x.bind());
        add("the next station", x.station(0, Rivers.weir(1, 1, 0), 1, true));
    }

    private void boundRow() {
        RaftRivers x = source.get();
        int raft = x.bind();
        for (int what = 0; what < 7; what++) {
            add("bound, raft(" + raft + ", " + what + ")", x.raft(raft, what));
        }
        for (int trunk = 0; trunk < 60; trunk++) {
            add("bound, told(" + trunk + ", 6)", x.told(trunk, 6));
        }
    }

    private void longerRow() {
        RaftRivers x = source.get();
        for (int trunk = 0; trunk < 60; trunk++) {
            add("put(" + trunk + ")", x.put(trunk));
        }
    }

    private void raftsByHour() {
        RaftRivers x = source.get();
        for (int hour = 0; hour < 10; hour++) {
            add("go(1)", x.go(1));
            for (int raft = 0; raft < 8; raft++) {
                add("hour by hour, raft(" + raft + ", 0)", x.raft(raft, 0));
            }
        }
        for (int owner = 0; owner < 8; owner++) {
            add("hours later, balance(" + owner + ")", x.balance(owner));
        }
    }

    private void pondsByHour() {
        RaftRivers x = source.get();
        for (int hour = 0; hour < 20; hour++) {
            x.go(1);
            for (int station : NEAR_STATIONS) {
                add("hour by hour, pond of " + station, x.count(100 + station));
            }
        }
    }

    private void crewsByHour() {
        RaftRivers x = source.get();
        for (int hour = 0; hour < 10; hour++) {
            x.go(1);
            for (int crew = 0; crew < 4; crew++) {
                add("hour by hour, crewed(" + crew + ", 0)", x.crewed(crew, 0));
                add("hour by hour, crewed(" + crew + ", 3)", x.crewed(crew, 3));
            }
        }
    }

    private void allReady() {
        RaftRivers x = source.get();
        for (int raft = 0; raft < 6; raft++) {
            for (int crew = 0; crew < 10; crew++) {
                add("ready(" + raft + ", " + crew + ")", x.ready(raft, crew));
            }
        }
        for (int hour = 0; hour < 5; hour++) {
            x.go(1);
            for (int raft = 0; raft < 6; raft++) {
                add("with all ready, raft(" + raft + ", 0)", x.raft(raft, 0));
            }
        }
    }

    private void sold(int days) {
        RaftRivers x = source.get();
        x.go(24 * days);
        for (int raft = 0; raft < 20; raft++) {
            x.unbind(raft);
        }
        for (int trunk = 0; trunk < 60; trunk++) {
            add(days + " days later, sell(" + trunk + ")", x.sell(trunk));
        }
        for (int owner = 0; owner < 8; owner++) {
            add(days + " days later, balance(" + owner + ")", x.balance(owner));
        }
    }

    private void lawsLeft() {
        RaftRivers x = source.get();
        for (int i = 0; i < 31; i++) {
            add("toll " + i, x.toll(999, 1));
        }
        x = source.get();
        for (int i = 0; i < 101; i++) {
            add("price " + i, x.price(0, 0, 999, 1));
        }
    }
}
