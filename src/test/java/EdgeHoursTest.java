/** Edges of promises 14 to 16, and of what the terms say of an HOUR and of STORMS. */
public final class EdgeHoursTest {
    private static final int UNDER_WAY = 2;
    private static final int WAITS = 1;
    private static final Due due = new Due();
    private static final Edges edges = new Edges(due);

    public static void main(String[] args) {
        goesSoManyHours();
        goesUpToTheLastHour();
        nothingPassesInTheLastHour();
        comesInItsHour();
        comesInTheLastHours();
        notWiderThanTheWeir();
        widthOfTheWidestRow();
        needNotAboveThePond();
        pondLess();
        pondsGetWhatComes();
        oneAnHour();
        leastRight();
        fiveAtFirst();
        mostTrunks();
        leastNumber();
        stormAtAStation();
        stormFromNow();
        stormToAbove();
        stormHours();
        stormToldLast();
        breaksWhatIsUnderWay();
        breaksInItsHours();
        losesOddOrEven();
        losesOfTheGreatest();
        breaksCrew();
        due.end();
    }

    private static void goesSoManyHours() {
        edges.in("promise 14: n HOURS pass (0 .. 500); NONE for another n", Rivers::states);
        edges.same("go(0)", 1, x -> x.go(0));
        edges.is("go(1)", 2, x -> x.go(1));
        edges.is("go(499)", 500, x -> x.go(499));
        edges.is("go(500)", 501, x -> x.go(500));
        for (int n : new int[] {Edges.LEAST, -500, -1, 501, 20000, 20001, Edges.MOST}) {
            edges.none("go(" + n + ")", x -> x.go(n));
        }
    }

    private static void at(RaftRivers x, int hour) {
        Rivers.river(x, Rivers.weir(3, 20, 2), 50);
        Rivers.goTo(x, hour);
    }

    private static void goesUpToTheLastHour() {
        edges.in("promise 14: up to 20000: from 19500", x -> at(x, 19500));
        edges.is("go(499)", 19999, x -> x.go(499));
        edges.is("go(500)", 20000, x -> x.go(500));
        edges.in("promise 14: up to 20000: from 19501", x -> at(x, 19501));
        edges.is("go(500)", 20000, x -> x.go(500));
        edges.in("promise 14: up to 20000: from 19999", x -> at(x, 19999));
        edges.is("go(0)", 19999, x -> x.go(0));
        edges.is("go(1)", 20000, x -> x.go(1));
        edges.is("go(2)", 20000, x -> x.go(2));
        edges.in("promise 14: up to 20000: from 20000", x -> at(x, 20000));
        edges.same("go(0)", 20000, x -> x.go(0));
        edges.same("go(1)", 20000, x -> x.go(1));
        edges.same("go(500)", 20000, x -> x.go(500));
        edges.none("go(501)", x -> x.go(501));
        edges.none("go(-1)", x -> x.go(-1));
        edges.same("count(0)", 20000, x -> x.count(0));
    }

    private static void nothingPassesInTheLastHour() {
        edges.in("promise 14: up to 20000", x -> {
            at(x, 19999);
            Rivers.readyRaft(x, 1, 1);
            Rivers.readyRaft(x, 1, 1);
            x.go(500);
        });
        edges.same("in hour 19999 one passed", 20002, x -> x.raft(0, 6));
        edges.same("in hour 20000 go(1) lets none pass", 20000, x -> x.go(1));
        edges.same("it waits", WAITS, x -> x.raft(1, 0));
        edges.same("no water came", 47, x -> x.count(101));
    }

    private static int stateIn(RaftRivers x, int raft, int hour) {
        Rivers.goTo(x, hour);
        return x.raft(raft, 0);
    }

    private static void comesInItsHour() {
        for (int hours : new int[] {1, 2, 20}) {
            edges.in("terms: it comes as many HOURS later as it is to the STATION BELOW: " + hours, x -> {
                Rivers.river(x, Rivers.weir(hours, 20, 2), 50);
                Rivers.readyRaft(x, 1, 1);
            });
            edges.is("it passes in hour 0", UNDER_WAY, x -> stateIn(x, 0, 1));
            edges.is("its hour hasn't passed", UNDER_WAY, x -> stateIn(x, 0, hours));
            edges.is("its hour has", 0, x -> stateIn(x, 0, hours + 1));
            edges.is("raft(0, 6)", hours, x -> {
                x.go(1);
                return x.raft(0, 6);
            });
        }
    }

    private static void comesInTheLastHours() {
        edges.in("terms: HOURS are 0 .. 20000", x -> {
            at(x, 19996);
            Rivers.readyRaft(x, 1, 1);
            Rivers.readyRaft(x, 1, 1);
            x.go(4);
        });
        edges.same("it comes in hour 19999", 0, x -> x.raft(0, 0));
        edges.same("the next one in hour 20000, which never passes", UNDER_WAY, x -> x.raft(1, 0));
        edges.same("raft(1, 6)", 20000, x -> x.raft(1, 6));
        edges.is("it can break", 1, x -> x.breaks(1, true));
    }

    private static void wide(RaftRivers x, int wide, int... thick) {
        Rivers.river(x, Rivers.weir(1, wide, 0), 100);
        Rivers.readyRaft(x, 1, thick);
        x.go(1);
    }

    private static void notWiderThanTheWeir() {
        edges.in("terms: RAFTS that are not wider than it", x -> { });
        edges.is("9 in 10", UNDER_WAY, x -> {
            wide(x, 10, 9);
            return x.raft(0, 0);
        });
        edges.is("10 in 10", UNDER_WAY, x -> {
            wide(x, 10, 9, 1);
            return x.raft(0, 0);
        });
        edges.is("11 in 10", WAITS, x -> {
            wide(x, 10, 9, 2);
            return x.raft(0, 0);
        });
        edges.is("one behind it that isn't too wide passes", UNDER_WAY, x -> {
            Rivers.river(x, Rivers.weir(1, 10, 0), 100);
            Rivers.readyRaft(x, 1, 9, 2);
            Rivers.readyRaft(x, 1, 9);
            x.go(1);
            return x.raft(1, 0);
        });
    }

    /** A raft of three rows, of which this one is so wide, at a weir that is 10 wide. */
    private static int rows(RaftRivers x, int widest, int thick) {
        Rivers.river(x, Rivers.weir(1, 10, 0), 100);
        for (int i = 0; i < 3; i++) {
            Rivers.raft(x, 1, i == widest ? new int[] {5, thick} : new int[] {5});
            x.join(0, i);
        }
        Rivers.ready(x, 0);
        x.go(1);
        return x.raft(0, 0);
    }

    private static void widthOfTheWidestRow() {
        edges.in("terms: a RAFT's WIDTH is that of its widest ROW", x -> { });
        for (int widest = 0; widest < 3; widest++) {
            int row = widest;
            edges.is("row " + row + " of 10 in 10", UNDER_WAY, x -> rows(x, row, 5));
            edges.is("row " + row + " of 11 in 10", WAITS, x -> rows(x, row, 6));
        }
    }

    private static int needs(RaftRivers x, int rows, int pond) {
        Rivers.river(x, Rivers.weir(1, 10, 0), pond);
        Rivers.readyLong(x, 1, rows);
        x.go(1);
        return x.raft(0, 0);
    }

    private static void needNotAboveThePond() {
        edges.in("terms: its NEED is five times as many as it has ROWS; isn't above the POND", x -> { });
        for (int rows = 1; rows <= 8; rows++) {
            int many = rows;
            edges.is(rows + " rows, one too few", WAITS, x -> needs(x, many, 5 * many - 1));
            edges.is(rows + " rows, just enough", UNDER_WAY, x -> needs(x, many, 5 * many));
            edges.is(rows + " rows, one more", UNDER_WAY, x -> needs(x, many, 5 * many + 1));
        }
        edges.is("an empty pond", WAITS, x -> needs(x, 1, 0));
        edges.is("one that comes too short is passed by", UNDER_WAY, x -> {
            Rivers.river(x, Rivers.weir(1, 10, 0), 9);
            Rivers.readyLong(x, 1, 2);
            Rivers.readyRaft(x, 1, 1);
            x.go(1);
            return x.raft(2, 0);
        });
    }

    private static void pondLess() {
        edges.in("terms: the POND has its NEED less", x -> {
            Rivers.river(x, Rivers.weir(1, 10, 0), 10);
            Rivers.readyRaft(x, 1, 1);
            Rivers.readyRaft(x, 1, 1);
            Rivers.readyRaft(x, 1, 1);
        });
        edges.same("full", 10, x -> x.count(101));
        edges.is("5 less", 5, x -> x.go(1) == 1 ? x.count(101) : Edges.NONE);
        edges.is("empty", 0, x -> x.go(2) == 2 ? x.count(101) : Edges.NONE);
        edges.is("empty, and none passes", 0, x -> x.go(500) == 500 ? x.count(101) : Edges.NONE);
        edges.is("the last one waits", WAITS, x -> stateIn(x, 2, 500));
    }

    private static int pondIn(int holds, int comes, int hour) {
        RaftRivers x = new RaftRivers();
        Rivers.river(x, Rivers.weir(1, 10, comes), holds);
        Rivers.readyLong(x, 1, 2);
        Rivers.goTo(x, hour);
        return x.count(101);
    }

    private static void pondsGetWhatComes() {
        due.part("terms: PONDS get what comes, to what they hold");
        due.is("0 and 4", pondIn(10, 4, 1), 4);
        due.is("4 and 4", pondIn(10, 4, 2), 8);
        due.is("8 and 4 is above 10", pondIn(10, 4, 3), 10);
        due.is("full", pondIn(10, 4, 4), 10);
        due.is("0 and 5", pondIn(10, 5, 1), 5);
        due.is("5 and 5 is just 10", pondIn(10, 5, 2), 10);
        due.is("0 and 9", pondIn(10, 9, 1), 9);
        due.is("0 and 10", pondIn(10, 10, 1), 10);
        due.is("0 and 11", pondIn(10, 11, 1), 10);
        due.is("990 and 50", pondIn(1000, 50, 1), 1000);
        due.is("990 and 9", pondIn(1000, 9, 1), 999);
        edges.in("terms: the water that comes is behind those that pass", x -> {
            Rivers.river(x, Rivers.weir(1, 10, 5), 5);
            Rivers.readyLong(x, 1, 2);
        });
        edges.is("what a pond can't hold is never there", WAITS, x -> stateIn(x, 0, 100));
    }

    private static void oneAnHour() {
        edges.in("terms: the one that goes under way; one an HOUR", x -> {
            Rivers.river(x, Rivers.weir(20, 10, 50), 1000);
            for (int i = 0; i < 10; i++) {
                Rivers.readyRaft(x, 1, 1);
            }
        });
        for (int raft = 0; raft < 10; raft++) {
            int asked = raft;
            edges.is("raft " + raft + " waits", WAITS, x -> stateIn(x, asked, asked));
            edges.is("raft " + raft + " passes", UNDER_WAY, x -> stateIn(x, asked, asked + 1));
        }
    }

    /** Which of two rafts, of owners 1 and 2, passes first. */
    private static int first(int right, int other, int trunks, int others) {
        RaftRivers x = new RaftRivers();
        Rivers.river(x, Rivers.weir(3, 60, 0), 100);
        x.right(1, right);
        x.right(2, other);
        return firstOf(x, Rivers.raftOf(x, 1, 1, ones(trunks)), Rivers.raftOf(x, 1, 2, ones(others)));
    }

    /** The one of greater number is ready before the other one, which is not to matter. */
    private static int firstOf(RaftRivers x, int raft, int other) {
        Rivers.ready(x, other);
        Rivers.ready(x, raft);
        x.go(1);
        due.is("one passes", x.raft(raft, 0) + x.raft(other, 0), UNDER_WAY + WAITS);
        return x.raft(raft, 0) == UNDER_WAY ? raft : other;
    }

    /** Which one passes first, one of an owner without a right told, or another one's with this right. */
    private static int firstWithout(int owner, int right, int trunks, int others) {
        RaftRivers x = new RaftRivers();
        Rivers.river(x, Rivers.weir(3, 60, 0), 100);
        x.right((owner + 1) % 8, right);
        return firstOf(x, Rivers.raftOf(x, 1, owner, ones(trunks)), Rivers.raftOf(x, 1, (owner + 1) % 8, ones(others)));
    }

    private static void fiveAtFirst() {
        due.part("terms: RIGHTS: each OWNER has one (5 at first)");
        for (int owner = 0; owner < 8; owner++) {
            due.is("owner " + owner + " and 4", firstWithout(owner, 4, 9, 1), 1);
            due.is("owner " + owner + " and 5, fewer trunks", firstWithout(owner, 5, 1, 2), 1);
            due.is("owner " + owner + " and 5, more trunks", firstWithout(owner, 5, 2, 1), 0);
            due.is("owner " + owner + " and 6", firstWithout(owner, 6, 1, 9), 0);
        }
    }

    private static int[] ones(int many) {
        int[] thick = new int[many];
        java.util.Arrays.fill(thick, 1);
        return thick;
    }

    private static void leastRight() {
        due.part("terms: the one of the OWNER of least RIGHT");
        due.is("0 and 1", first(0, 1, 1, 9), 0);
        due.is("1 and 0", first(1, 0, 9, 1), 1);
        due.is("8 and 9", first(8, 9, 1, 9), 0);
        due.is("9 and 8", first(9, 8, 9, 1), 1);
        due.is("0 and 9", first(0, 9, 1, 9), 0);
        due.is("9 and 0", first(9, 0, 9, 1), 1);
        edges.in("terms: RIGHT (that of its first TRUNK)", x -> {
            Rivers.river(x, Rivers.weir(3, 60, 0), 100);
            int raft = Rivers.raftOf(x, 1, 1, 1);
            x.join(raft, Rivers.raftOf(x, 1, 2, 1));
            Rivers.raftOf(x, 1, 3, 1);
            x.right(2, 0);
            x.right(3, 4);
            Rivers.ready(x, raft);
            Rivers.ready(x, 2);
        });
        edges.is("not of the second", WAITS, x -> stateIn(x, 0, 1));
        edges.is("so the other passes", UNDER_WAY, x -> stateIn(x, 2, 1));
    }

    private static void mostTrunks() {
        due.part("terms: of these that of the most TRUNKS");
        due.is("2 and 1", first(5, 5, 2, 1), 0);
        due.is("1 and 2", first(5, 5, 1, 2), 1);
        due.is("9 and 8", first(0, 0, 9, 8), 0);
        due.is("8 and 9", first(9, 9, 8, 9), 1);
        edges.in("terms: the most TRUNKS, of all ROWS", x -> {
            Rivers.river(x, Rivers.weir(3, 60, 0), 100);
            Rivers.raft(x, 1, 1, 1, 1);
            Rivers.longRaft(x, 1, 4);
            Rivers.ready(x, 0);
            Rivers.ready(x, 1);
        });
        edges.is("4 in 4 rows", UNDER_WAY, x -> stateIn(x, 1, 1));
    }

    private static void leastNumber() {
        due.part("terms: of these the least number");
        due.is("as many trunks", first(5, 5, 1, 1), 0);
        due.is("as many trunks", first(0, 0, 9, 9), 0);
        due.is("as many trunks", first(9, 9, 4, 4), 0);
    }

    /** The first raft passes at once, the second one behind the storm. */
    private static void atHourTen(RaftRivers x) {
        Rivers.chain(x, 3, Rivers.weir(3, 20, 2), 50);
        x.go(10);
        Rivers.readyRaft(x, 1, 1);
        Rivers.readyRaft(x, 1, 1);
        Rivers.readyRaft(x, 2, 1);
        x.storm(1, 11, 14);
    }

    private static void stormAtAStation() {
        edges.in("promise 15: false if there is no such STATION", EdgeHoursTest::atHourTen);
        edges.rangeAsk("station", 0, 2, (x, n) -> x.storm(n, 10, 20));
    }

    private static void stormFromNow() {
        edges.in("promise 15: false if from is below NOW", EdgeHoursTest::atHourTen);
        edges.yes("from NOW", x -> x.storm(1, 10, 11));
        edges.yes("from one later", x -> x.storm(1, 11, 12));
        edges.yes("from the last hour but one", x -> x.storm(1, Edges.MOST - 1, Edges.MOST));
        for (int from : new int[] {Edges.LEAST, -1, 0, 9}) {
            edges.no("from " + from, x -> x.storm(1, from, 20));
            edges.no("from " + from + " to the greatest int", x -> x.storm(1, from, Edges.MOST));
        }
        edges.in("promise 15: false if from is below NOW", x -> at(x, 20000));
        edges.yes("from 20000", x -> x.storm(1, 20000, 20001));
        edges.no("from 19999", x -> x.storm(1, 19999, 20001));
        edges.in("promise 15: false if from is below NOW", x -> at(x, 0));
        edges.yes("from 0", x -> x.storm(1, 0, 1));
        edges.no("from -1", x -> x.storm(1, -1, 1));
    }

    private static void stormToAbove() {
        edges.in("promise 15: false if to isn't above it", EdgeHoursTest::atHourTen);
        edges.yes("10 to 11", x -> x.storm(1, 10, 11));
        edges.yes("10 to the greatest int", x -> x.storm(1, 10, Edges.MOST));
        edges.yes("13 to 14", x -> x.storm(1, 13, 14));
        for (int to : new int[] {Edges.LEAST, -1, 0, 9, 10, 11, 12, 13}) {
            edges.no("13 to " + to, x -> x.storm(1, 13, to));
        }
        edges.no("10 to 10", x -> x.storm(1, 10, 10));
        edges.no("the greatest int to itself", x -> x.storm(1, Edges.MOST, Edges.MOST));
        edges.no("the greatest int to the smallest", x -> x.storm(1, Edges.MOST, Edges.LEAST));
    }

    /** The hour in which the next raft passes at station 1. */
    private static int passesIn(RaftRivers x) {
        int raft = Rivers.readyRaft(x, 1, 1);
        for (int i = 0; i < 50; i++) {
            x.go(1);
            if (x.raft(raft, 0) == UNDER_WAY) {
                return x.raft(raft, 6) - 3;
            }
        }
        return Edges.NONE;
    }

    private static int passesWith(RaftRivers x, int from, int to) {
        x.storm(1, from, to);
        return passesIn(x);
    }

    private static void stormHours() {
        edges.in("terms: STORMS: from an HOUR to another one (that one not)", x -> at(x, 10));
        edges.is("without", 10, EdgeHoursTest::passesIn);
        edges.is("one hour", 11, x -> passesWith(x, 10, 11));
        edges.is("two hours", 12, x -> passesWith(x, 10, 12));
        edges.is("from the next hour on", 10, x -> passesWith(x, 11, 30));
        edges.is("to the greatest int", Edges.NONE, x -> passesWith(x, 10, Edges.MOST));
        edges.is("the last raft before it", 12, x -> {
            x.storm(1, 13, 20);
            x.go(2);
            return passesIn(x);
        });
        edges.is("its first hour", 20, x -> {
            x.storm(1, 13, 20);
            x.go(3);
            return passesIn(x);
        });
        edges.is("its last hour", 20, x -> {
            x.storm(1, 13, 20);
            x.go(9);
            return passesIn(x);
        });
        edges.is("behind it", 20, x -> {
            x.storm(1, 13, 20);
            x.go(10);
            return passesIn(x);
        });
        edges.is("at the first station it stops nothing", 10, x -> {
            x.storm(0, 10, 40);
            return passesIn(x);
        });
    }

    private static void stormToldLast() {
        edges.in("terms: STORMS: one each, the one told last", x -> {
            at(x, 10);
            x.station(1, Rivers.weir(3, 20, 2), 50, false);
            x.storm(1, 10, 40);
        });
        edges.is("a shorter one", 12, x -> passesWith(x, 10, 12));
        edges.is("a later one", 10, x -> passesWith(x, 15, 20));
        edges.is("one that is refused isn't told", 40, x -> passesWith(x, 9, 12));
        edges.is("one that is refused isn't told", 40, x -> passesWith(x, 15, 15));
        edges.is("one at another station", 40, x -> {
            x.storm(2, 15, 20);
            return passesIn(x);
        });
    }

    private static void breaksWhatIsUnderWay() {
        for (boolean odd : new boolean[] {true, false}) {
            edges.in("promise 16: NONE if it isn't under way", Rivers::states);
            edges.is("under way", odd ? 1 : 0, x -> x.breaks(Rivers.UNDER_WAY, odd));
            edges.noneSuch("raft", 6, (x, n) -> x.breaks(n, odd));
            edges.none("tied", x -> x.breaks(Rivers.TIED, odd));
            edges.none("tied at the first station", x -> x.breaks(Rivers.LOW, odd));
            edges.none("ready", x -> x.breaks(Rivers.READY, odd));
            edges.none("no more", x -> x.breaks(Rivers.NO_MORE, odd));
            edges.in("promise 16: NONE if it isn't under way any more", x -> {
                Rivers.states(x);
                x.breaks(Rivers.UNDER_WAY, odd);
            });
            edges.none("again", x -> x.breaks(Rivers.UNDER_WAY, odd));
            edges.none("again, the other way", x -> x.breaks(Rivers.UNDER_WAY, !odd));
        }
    }

    private static void breaksInItsHours() {
        edges.in("promise 16: A RAFT that is under way, in its first and its last HOUR", Rivers::states);
        edges.is("the first", 1, x -> x.breaks(Rivers.UNDER_WAY, true));
        edges.is("the last", 1, x -> x.go(2) == 3 ? x.breaks(Rivers.UNDER_WAY, true) : Edges.NONE);
        edges.in("promise 16: NONE if it isn't under way, in the HOUR behind it", x -> {
            Rivers.states(x);
            x.go(3);
        });
        edges.none("it has come", x -> x.breaks(Rivers.UNDER_WAY, true));
    }

    /** Trunks 0 to 4 in two rows go down and break in hour 1. */
    private static void broken(RaftRivers x, boolean odd) {
        Rivers.river(x, Rivers.weir(3, 20, 2), 50);
        Rivers.raft(x, 1, 1, 2, 3);
        x.join(0, Rivers.raft(x, 1, 4, 5));
        Rivers.ready(x, 0);
        x.go(1);
        x.breaks(0, odd);
    }

    private static void losesOddOrEven() {
        for (boolean odd : new boolean[] {true, false}) {
            edges.in("promise 16: those with odd numbers, if odd, else those with even ones", x -> broken(x, odd));
            for (int trunk = 0; trunk < 5; trunk++) {
                int asked = trunk;
                boolean lost = odd == (trunk % 2 == 1);
                edges.same("told 4 of " + trunk, lost ? 3 : 0, x -> x.told(asked, 4));
                edges.same("told 5 of " + trunk, lost ? Edges.NONE : 0, x -> x.told(asked, 5));
                edges.same("told 6 of " + trunk, Edges.NONE, x -> x.told(asked, 6));
                edges.same("told 7 of " + trunk, Edges.NONE, x -> x.told(asked, 7));
            }
            edges.same("count(7)", odd ? 2 : 3, x -> x.count(7));
            edges.same("count(6)", 0, x -> x.count(6));
        }
        edges.in("promise 16: how many TRUNKS are LOST", Rivers::states);
        edges.is("all", 1, x -> x.breaks(Rivers.UNDER_WAY, true));
        edges.is("none", 0, x -> x.breaks(Rivers.UNDER_WAY, false));
        edges.is("none, and it lies", 0, x -> x.breaks(Rivers.UNDER_WAY, false) == 0 ? x.told(5, 5) : Edges.NONE);
        edges.is("none, and the raft is no more", 3,
            x -> x.breaks(Rivers.UNDER_WAY, false) == 0 ? x.raft(Rivers.UNDER_WAY, 0) : Edges.NONE);
    }

    private static void losesOfTheGreatest() {
        edges.in("promise 16: of 8 ROWS of 9 TRUNKS", x -> {
            Rivers.river(x, Rivers.weir(3, 9, 2), 50);
            for (int row = 0; row < 8; row++) {
                for (int i = 0; i < 9; i++) {
                    x.put(x.trunk(1 + 9 * row + i, 101 + 100 * (row % 7), 1));
                }
                x.bind();
                x.join(0, row);
            }
            x.toll(0, 100);
            Rivers.ready(x, 0);
            x.go(1);
        });
        edges.same("it has passed", UNDER_WAY, x -> x.raft(0, 0));
        edges.same("count(5)", 7200, x -> x.count(5));
        edges.same("two rows' owner", -1800, x -> x.balance(1));
        edges.same("a row's owner", -900, x -> x.balance(7));
        edges.is("odd ones", 36, x -> x.breaks(0, true));
        edges.is("even ones", 36, x -> x.breaks(0, false));
    }

    private static void breaksCrew() {
        edges.in("terms: its CREW is AT that STATION at once", x -> broken(x, true));
        int[] crew = {0, 0, Edges.NONE, 1};
        for (int what = 0; what < crew.length; what++) {
            int asked = what;
            edges.same("crewed(0, " + what + ")", crew[what], x -> x.crewed(0, asked));
        }
        int[] raft = {3, Edges.NONE, 0, 0, 0, Edges.NONE, Edges.NONE};
        for (int what = 0; what < raft.length; what++) {
            int asked = what;
            edges.same("raft(0, " + what + ")", raft[what], x -> x.raft(0, asked));
        }
        edges.is("it can walk at once", 7, x -> x.walk(0));
    }
}
