/** Promises 23 and 24: best and passes. */
public final class BestTest {
    private static final int NONE = RaftRivers.NONE;
    private static final Due due = new Due();

    public static void main(String[] args) {
        plenty();
        shortFirst();
        firstOfLikeOnes();
        latestNotAlwaysLongest();
        never();
        whoCounts();
        fiveAndSix();
        fromNow();
        passesAlone();
        withoutStorms();
        wrongArguments();
        changesNothing();
        due.end();
    }

    private static RaftRivers river(int wide, int inflow, int pond) {
        RaftRivers x = new RaftRivers();
        x.station(0, 0, 0, false);
        x.station(0, Rivers.weir(1, wide, inflow), pond, false);
        return x;
    }

    private static int readyRaft(RaftRivers x, int rows) {
        int raft = Rivers.longRaft(x, 1, rows);
        Rivers.ready(x, raft);
        return raft;
    }

    private static void order(RaftRivers x, int... raftsAndHours) {
        int size = raftsAndHours.length / 2;
        for (int i = 0; i < size; i++) {
            due.is("best(1, " + i + ")", x.best(1, i), raftsAndHours[2 * i]);
            due.is("passes(1, " + i + ")", x.passes(1, i), raftsAndHours[2 * i + 1]);
        }
        due.none("best behind the last", x.best(1, size));
        due.none("passes behind the last", x.passes(1, size));
    }

    private static void plenty() {
        due.part("promise 23, water enough");
        RaftRivers x = river(9, 0, 1000);
        int a = readyRaft(x, 3);
        int b = readyRaft(x, 1);
        int c = readyRaft(x, 2);
        order(x, a, 0, b, 1, c, 2);
    }

    private static void shortFirst() {
        due.part("promise 23, the short ones first");
        RaftRivers x = river(9, 1, 20);
        int four = readyRaft(x, 4);
        int one = readyRaft(x, 1);
        int two = readyRaft(x, 2);
        // 20 - 5 + 1 = 16, 16 - 10 + 1 = 7, and 13 hours more to 20.
        order(x, one, 0, two, 1, four, 15);
    }

    private static void firstOfLikeOnes() {
        due.part("promise 23, of like ones the first by numbers");
        RaftRivers x = river(9, 5, 10);
        int two = readyRaft(x, 2);
        int one = readyRaft(x, 1);
        int other = readyRaft(x, 1);
        // two, one, other: 0, 1, 2; and so by every order that has two first or behind one.
        order(x, two, 0, one, 1, other, 2);
    }

    private static void latestNotAlwaysLongest() {
        due.part("promise 23, a full pond wastes water");
        RaftRivers x = river(9, 4, 10);
        int one = readyRaft(x, 1);
        int two = readyRaft(x, 2);
        int second = readyRaft(x, 1);
        // one: 0 (5 + 4 = 9), two: 2 (0 + 4), second: 4. Sum 6.
        // one, second: 0, 1 (9 - 5 + 4 = 8), two: 3, for the pond is full with 10. Sum 4.
        // two: 0 (0 + 4), one: 2 (8 - 5 + 4 = 7), second: 3. Sum 5.
        order(x, one, 0, second, 1, two, 3);
    }

    private static void never() {
        due.part("promise 23, never");
        RaftRivers x = river(9, 0, 14);
        int one = readyRaft(x, 1);
        order(x, one, 0);
        int two = readyRaft(x, 2);
        due.none("15 of 14, and none comes", x.best(1, 0));
        due.none("15 of 14, and none comes", x.passes(1, 0));
        x.tie(two);
        order(x, one, 0);
        RaftRivers y = river(9, 0, 15);
        int a = readyRaft(y, 1);
        int b = readyRaft(y, 2);
        order(y, a, 0, b, 1);
    }

    private static void whoCounts() {
        due.part("promise 23, who counts");
        RaftRivers x = river(9, 1, 12);
        due.none("none", x.best(1, 0));
        int wide = Rivers.raft(x, 1, 5, 5);
        Rivers.ready(x, wide);
        due.none("too wide", x.best(1, 0));
        readyRaft(x, 3);
        due.none("needs 15 of a pond that holds 12", x.best(1, 0));
        int tied = Rivers.raft(x, 1, 1);
        due.none("tied", x.best(1, 0));
        int fits = Rivers.raft(x, 1, 5, 4);
        Rivers.ready(x, fits);
        order(x, fits, 0);
        x.go(1);
        due.none("under way", x.best(1, 0));
        due.is("tied", x.raft(tied, 0), 0);
        x.station(1, Rivers.weir(1, 9, 0), 9, false);
        int above = Rivers.raft(x, 2, 1);
        Rivers.ready(x, above);
        due.none("elsewhere", x.best(1, 0));
        due.is("there", x.best(2, 0), above);
        due.is("there", x.passes(2, 0), 1);
    }

    private static void fiveAndSix() {
        due.part("promise 23, more than 5");
        RaftRivers x = river(9, 2, 10);
        int[] rafts = new int[6];
        int[] rows = {2, 1, 2, 1, 1, 1};
        for (int i = 0; i < 5; i++) {
            rafts[i] = readyRaft(x, rows[i]);
        }
        // 10: one 0 (7), one 1 (4), one 3 (6 - 5 + 2 = 3), two 8 (10 - 10 + 2), two 13: sum 25.
        order(x, rafts[1], 0, rafts[3], 1, rafts[4], 3, rafts[0], 8, rafts[2], 13);
        int wide = Rivers.raft(x, 1, 5, 5);
        Rivers.ready(x, wide);
        due.is("one that is too wide isn't counted", x.best(1, 0), rafts[1]);
        rafts[5] = readyRaft(x, 1);
        due.none("6", x.best(1, 0));
        due.none("6", x.passes(1, 0));
        x.go(1);
        due.is("5 again", x.count(101) > 0 && x.best(1, 0) != NONE ? 1 : 0, 1);
    }

    private static void fromNow() {
        due.part("promise 24, from NOW on, with the water that there is");
        RaftRivers x = river(9, 2, 10);
        x.go(7);
        int one = readyRaft(x, 2);
        order(x, one, 7);
        x.go(1);
        int next = readyRaft(x, 2);
        due.is("pond", x.count(101), 2);
        order(x, next, 12);
        x.go(4);
        due.is("not in hour 11", x.raft(next, 0), 1);
        x.go(1);
        due.is("in hour 12", x.raft(next, 6), 13);
    }

    private static void passesAlone() {
        due.part("promise 24, asked without best");
        RaftRivers x = river(9, 2, 10);
        readyRaft(x, 2);
        due.is("passes(1, 0)", x.passes(1, 0), 0);
        int next = readyRaft(x, 1);
        due.is("passes(1, 1): 0 + 2 + 2 + 2 is enough", x.passes(1, 1), 3);
        x.go(1);
        due.is("the other one is left", x.passes(1, 0), 3);
        x.tie(next);
        due.none("none is left", x.passes(1, 0));
    }

    private static void withoutStorms() {
        due.part("promise 24, without storms");
        RaftRivers x = river(9, 2, 10);
        int one = readyRaft(x, 1);
        x.storm(1, 0, 50);
        order(x, one, 0);
        x.go(3);
        order(x, one, 3);
    }

    private static void wrongArguments() {
        due.part("promises 23 and 24, wrong arguments");
        RaftRivers x = river(9, 2, 10);
        int one = readyRaft(x, 1);
        Rivers.raft(x, 0, 1);
        order(x, one, 0);
        for (int station : new int[] {-1, 0, 2, Integer.MIN_VALUE, Integer.MAX_VALUE}) {
            due.none("best at " + station, x.best(station, 0));
            due.none("passes at " + station, x.passes(station, 0));
        }
        for (int k : new int[] {-1, 1, 5, Integer.MIN_VALUE, Integer.MAX_VALUE}) {
            due.none("best of " + k, x.best(1, k));
            due.none("passes of " + k, x.passes(1, k));
        }
    }

    private static void changesNothing() {
        due.part("promises 23 and 24 only tell");
        RaftRivers x = river(9, 1, 10);
        int two = readyRaft(x, 2);
        int one = readyRaft(x, 1);
        // one 0 (6), two 5: sum 5; two 0 (1), one 5: sum 5, and it is the first by numbers.
        order(x, two, 0, one, 5);
        int other = readyRaft(x, 1);
        // one 0 (6), other 1 (2), two 10: sum 11; two 0 (1), one 5 (1), other 10: sum 15.
        order(x, one, 0, other, 1, two, 10);
        due.is("NOW", x.count(0), 0);
        due.is("pond", x.count(101), 10);
        due.is("ready", x.raft(two, 0), 1);
        x.go(1);
        due.is("the hour goes by right, trunks and numbers, not by what is best", x.raft(two, 0), 2);
        due.is("so the other waits", x.raft(one, 0), 1);
    }
}
