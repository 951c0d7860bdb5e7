/** Edges of promises 23 and 24, and of what the terms say of BEST. */
public final class EdgeBestTest {
    private static final Due due = new Due();
    private static final Edges edges = new Edges(due);

    public static void main(String[] args) {
        atAWeir();
        theKth();
        noneReady();
        fiveAndNotSix();
        notWider();
        needNotAboveWhatItHolds();
        onlyThoseReadyThere();
        asSoonAsItCan();
        waterToWhatItHolds();
        fromNowOn();
        withoutStorms();
        leastSum();
        everyOrderMayBeBest();
        firstOfLikeOnes();
        neverDoesntCount();
        due.end();
    }

    private static void river(RaftRivers x, int comes, int pond) {
        Rivers.river(x, Rivers.weir(1, 9, comes), pond);
    }

    /** Rafts of so many rows each are ready at station 1, with these numbers of first rows. */
    private static void crowd(RaftRivers x, int... rows) {
        for (int many : rows) {
            Rivers.readyLong(x, 1, many);
        }
    }

    /** Numbers of rafts, each with the hour in which it passes; and none behind them. */
    private static void order(int... raftsAndHours) {
        int size = raftsAndHours.length / 2;
        for (int k = 0; k < size; k++) {
            int asked = k;
            edges.same("best(1, " + k + ")", raftsAndHours[2 * k], x -> x.best(1, asked));
            edges.same("passes(1, " + k + ")", raftsAndHours[2 * k + 1], x -> x.passes(1, asked));
        }
        edges.none("best(1, " + size + ")", x -> x.best(1, size));
        edges.none("passes(1, " + size + ")", x -> x.passes(1, size));
    }

    private static void atAWeir() {
        edges.in("promise 23: NONE if there is no such STATION (the first one has no WEIR)", x -> {
            Rivers.chain(x, 12, Rivers.weir(1, 9, 1), 50);
            for (int station = 1; station < 12; station += 2) {
                Rivers.readyRaft(x, station, 1);
            }
            Rivers.raft(x, 0, 1);
            x.crew(0);
        });
        edges.same("best at the second", 0, x -> x.best(1, 0));
        edges.same("best at the last", 5, x -> x.best(11, 0));
        edges.same("passes at the second", 0, x -> x.passes(1, 0));
        edges.same("passes at the last", 0, x -> x.passes(11, 0));
        edges.none("best at the first", x -> x.best(0, 0));
        edges.none("passes at the first", x -> x.passes(0, 0));
        edges.noneSuch("best", 12, (x, n) -> x.best(n, 0));
        edges.noneSuch("passes", 12, (x, n) -> x.passes(n, 0));
    }

    private static void theKth() {
        edges.in("promise 23: the k-th RAFT (from 0 on); NONE if there is no such k", x -> {
            river(x, 1, 100);
            crowd(x, 1, 1, 1);
        });
        order(0, 0, 1, 1, 2, 2);
        edges.noneSuch("best, k", 3, (x, n) -> x.best(1, n));
        edges.noneSuch("passes, k", 3, (x, n) -> x.passes(1, n));
        edges.none("best, k 4", x -> x.best(1, 4));
        edges.none("best, k 5", x -> x.best(1, 5));
        edges.none("passes, k 4", x -> x.passes(1, 4));
        edges.none("passes, k 5", x -> x.passes(1, 5));
    }

    private static void noneReady() {
        edges.in("promise 23: NONE if there are none", x -> river(x, 1, 100));
        order();
        edges.in("promise 23: one", x -> {
            river(x, 1, 100);
            crowd(x, 1);
        });
        order(0, 0);
    }

    private static void fiveAndNotSix() {
        edges.in("terms: for at most 5 RAFTS", x -> {
            river(x, 5, 100);
            crowd(x, 1, 1, 1, 1, 1);
        });
        order(0, 0, 1, 1, 2, 2, 3, 3, 4, 4);
        edges.noneSuch("best, k", 5, (x, n) -> x.best(1, n));
        edges.noneSuch("passes, k", 5, (x, n) -> x.passes(1, n));
        edges.in("promise 23: NONE if there are more than 5", x -> {
            river(x, 5, 100);
            crowd(x, 1, 1, 1, 1, 1, 1);
        });
        for (int k = 0; k < 7; k++) {
            int asked = k;
            edges.none("best, 6, k " + k, x -> x.best(1, asked));
            edges.none("passes, 6, k " + k, x -> x.passes(1, asked));
        }
        edges.is("5 again, as one is tied", 1, x -> x.tie(0) ? x.best(1, 0) : Edges.NONE);
        edges.is("5 again, as one is tied", 4, x -> x.tie(5) ? x.passes(1, 4) : Edges.NONE);
        edges.is("5 again, as one has passed", 5, x -> x.go(1) == 1 ? x.best(1, 4) : Edges.NONE);
        edges.in("promise 23: 10 are more than 5, too", x -> {
            river(x, 5, 100);
            crowd(x, 1, 1, 1, 1, 1, 1, 1, 1, 1, 1);
        });
        order();
    }

    private static void notWider() {
        edges.in("terms: BEST: not wider than it", x -> {
            river(x, 5, 100);
            Rivers.readyRaft(x, 1, 9, 1);
            Rivers.readyRaft(x, 1, 9);
            Rivers.readyRaft(x, 1, 8);
        });
        order(1, 0, 2, 1);
        edges.in("terms: BEST: of 5 and one that is wider", x -> {
            river(x, 5, 100);
            Rivers.readyRaft(x, 1, 9, 1);
            crowd(x, 1, 1, 1, 1, 1);
        });
        order(1, 0, 2, 1, 3, 2, 4, 3, 5, 4);
        edges.in("terms: BEST: all are wider", x -> {
            river(x, 5, 100);
            Rivers.readyRaft(x, 1, 9, 1);
        });
        order();
    }

    private static void needNotAboveWhatItHolds() {
        edges.in("terms: BEST: whose NEED isn't above what the POND holds: 10 of 10", x -> {
            river(x, 0, 10);
            crowd(x, 2);
        });
        order(0, 0);
        edges.in("terms: BEST: whose NEED isn't above what the POND holds: 10 of 9", x -> {
            river(x, 50, 9);
            crowd(x, 2, 1);
        });
        order(2, 0);
        edges.in("terms: BEST: 40 of 39", x -> {
            river(x, 50, 39);
            crowd(x, 8);
        });
        order();
        edges.in("terms: BEST: 40 of 40", x -> {
            river(x, 50, 40);
            crowd(x, 8);
        });
        order(0, 0);
        edges.in("terms: BEST: a POND that holds 0", x -> {
            river(x, 50, 0);
            crowd(x, 1);
        });
        order();
        edges.in("terms: BEST: what it holds, though it has less", x -> {
            river(x, 1, 10);
            crowd(x, 2, 2);
            x.go(1);
        });
        order(2, 10);
    }

    private static void onlyThoseReadyThere() {
        edges.in("terms: BEST: RAFTS that are READY there", x -> {
            Rivers.states(x);
            x.station(1, Rivers.weir(1, 9, 0), 50, false);
            Rivers.readyRaft(x, 2, 1);
        });
        order();
        edges.same("elsewhere", 6, x -> x.best(2, 0));
        edges.is("ready", Rivers.TIED, x -> x.ready(Rivers.TIED, Rivers.CREW_HERE) ? x.best(1, 0) : Edges.NONE);
    }

    private static void asSoonAsItCan() {
        edges.in("terms: BEST: each as soon as it can: just enough", x -> {
            river(x, 5, 5);
            crowd(x, 1, 1, 1);
        });
        order(0, 0, 1, 1, 2, 2);
        edges.in("terms: BEST: each as soon as it can: one too few", x -> {
            river(x, 4, 5);
            crowd(x, 1, 1, 1);
        });
        order(0, 0, 1, 2, 2, 4);
        edges.in("terms: BEST: water coming as told: 1 an HOUR", x -> {
            river(x, 1, 5);
            crowd(x, 1, 1);
        });
        order(0, 0, 1, 5);
        edges.in("terms: BEST: an empty POND", x -> {
            river(x, 1, 40);
            crowd(x, 8);
            x.go(1);
            crowd(x, 8);
        });
        edges.same("pond", 1, x -> x.count(101));
        order(8, 40);
    }

    private static void waterToWhatItHolds() {
        edges.in("terms: BEST: a POND gets water to what it holds", x -> {
            river(x, 50, 10);
            crowd(x, 2, 2, 1);
        });
        order(0, 0, 2, 1, 4, 2);
        edges.in("terms: BEST: what comes to a full POND is lost", x -> {
            river(x, 3, 10);
            crowd(x, 2, 2);
        });
        order(0, 0, 2, 4);
        edges.in("terms: BEST: the last drop is lost", x -> {
            river(x, 3, 10);
            crowd(x, 2);
            x.go(1);
            crowd(x, 2, 1);
        });
        // From 3: 2 rows in hour 4 with 10 of 12, 3 are there in hour 5, 1 row in hour 6; or 1 row in hour 2,
        // 1 and 3 are there in hour 3, and 2 rows in hour 5.
        order(4, 2, 2, 5);
    }

    private static void fromNowOn() {
        edges.in("terms: BEST: from NOW on", x -> {
            river(x, 1, 20);
            Rivers.goTo(x, 19999);
            crowd(x, 1, 1);
        });
        order(0, 19999, 1, 20000);
        edges.in("terms: BEST: from NOW on", x -> {
            river(x, 1, 20);
            Rivers.goTo(x, 20000);
            crowd(x, 1);
        });
        order(0, 20000);
    }

    private static void withoutStorms() {
        edges.in("terms: BEST: without STORMS", x -> {
            river(x, 1, 20);
            crowd(x, 1, 1);
            x.storm(1, 0, 100);
        });
        order(0, 0, 1, 1);
    }

    private static void leastSum() {
        edges.in("terms: BEST: that by which the sum of the HOURS is least", x -> {
            river(x, 1, 40);
            crowd(x, 5, 4, 3, 2, 1);
        });
        // The pond is never full again: who passes k-th does in hour k, or as late as all needs up to its own
        // are above 40. With 25 as the last one: 0, 1, 2, 50 - 40, 75 - 40, if the first three need at most 42.
        // By numbers the first such order needs 20, 15 (not 10 behind it, which makes 45), 5, 10, 25.
        order(5, 0, 9, 1, 14, 2, 12, 10, 0, 35);
    }

    /** Each order of one to five rafts is once the only best one: that of the fewest rows first. */
    private static void everyOrderMayBeBest() {
        due.part("terms: BEST: of all ORDERS in which they pass");
        for (int size = 1; size <= 5; size++) {
            tryOrders(new int[size], 0);
        }
    }

    private static void tryOrders(int[] rows, int told) {
        if (told == rows.length) {
            fewestRowsFirst(rows);
            return;
        }
        for (int many = 1; many <= rows.length; many++) {
            rows[told] = many;
            boolean fresh = true;
            for (int i = 0; i < told; i++) {
                fresh &= rows[i] != many;
            }
            if (fresh) {
                tryOrders(rows, told + 1);
            }
        }
    }

    /** The pond has 1 in hour 1, and 1 comes each hour, so that each raft waits for all its water. */
    private static void fewestRowsFirst(int[] rows) {
        RaftRivers x = new RaftRivers();
        river(x, 1, 25);
        crowd(x, 5);
        x.go(1);
        int[] raftOf = new int[rows.length + 1];
        for (int many : rows) {
            raftOf[many] = Rivers.readyLong(x, 1, many);
        }
        int hour = 0;
        for (int many = 1; many <= rows.length; many++) {
            hour += 5 * many;
            due.is("best of " + java.util.Arrays.toString(rows), x.best(1, many - 1), raftOf[many]);
            due.is("passes of " + java.util.Arrays.toString(rows), x.passes(1, many - 1), hour);
        }
    }

    private static void firstOfLikeOnes() {
        edges.in("terms: BEST: of like ones the first one (by numbers)", x -> {
            river(x, 0, 100);
            crowd(x, 5, 4, 3, 2, 1);
        });
        order(0, 0, 5, 1, 9, 2, 12, 3, 14, 4);
        edges.in("terms: BEST: of like ones the first one (by numbers), not by when they were READY", x -> {
            river(x, 0, 100);
            Rivers.raft(x, 1, 1);
            Rivers.raft(x, 1, 1);
            Rivers.raft(x, 1, 1);
            Rivers.ready(x, 2);
            Rivers.ready(x, 0);
            Rivers.ready(x, 1);
        });
        order(0, 0, 1, 1, 2, 2);
        edges.in("terms: BEST: RIGHTS and TRUNKS don't matter", x -> {
            river(x, 0, 100);
            Rivers.ready(x, Rivers.raftOf(x, 1, 1, 1));
            Rivers.ready(x, Rivers.raftOf(x, 1, 2, 1, 1));
            x.right(1, 9);
            x.right(2, 0);
        });
        order(0, 0, 1, 1);
    }

    private static void neverDoesntCount() {
        edges.in("terms: BEST: An ORDER by which one never could pass doesn't count: just enough", x -> {
            river(x, 0, 15);
            crowd(x, 2, 1);
        });
        order(0, 0, 2, 1);
        edges.in("terms: BEST: An ORDER by which one never could pass doesn't count: one too few", x -> {
            river(x, 0, 14);
            crowd(x, 2, 1);
        });
        order();
        edges.is("one alone could", 2, x -> x.tie(0) ? x.best(1, 0) : Edges.NONE);
        edges.is("the other alone could", 0, x -> x.tie(2) ? x.best(1, 0) : Edges.NONE);
        edges.in("terms: BEST: 1 an HOUR is enough", x -> {
            river(x, 1, 14);
            crowd(x, 2, 1);
        });
        order(0, 0, 2, 1);
    }
}
