/** Edges of promises 1 to 4, and of what the terms say of STATIONS and TRUNKS. */
public final class EdgeStationsTest {
    private static final int GOOD = Rivers.weir(1, 1, 0);
    private static final int[] FAR = {Edges.LEAST, -1, 0, 1, Edges.MOST};
    private static final Due due = new Due();
    private static final Edges edges = new Edges(due);

    public static void main(String[] args) {
        newObjectCounts();
        newObjectRefusesNumbers();
        newObjectRefusesAsks();
        newObjectTakes();
        ofTheFirstNothingMatters();
        firstIsACity();
        twelveStations();
        belowIsAnEarlierOne();
        hoursAway();
        howWide();
        whatComes();
        whatAPondHolds();
        whatAsAWhole();
        mayBeACity();
        hundredAndTwentyTrunks();
        marks();
        noTwoMarksAlike();
        marksStayTaken();
        ownerSortThickness();
        whatOfATrunkAsAWhole();
        stationOfATrunk();
        findsMarks();
        due.end();
    }

    private static void newObjectCounts() {
        edges.in("promise 1: No STATIONS; NOW is 0", x -> { });
        for (int what = 0; what <= 7; what++) {
            int asked = what;
            edges.same("count(" + what + ")", 0, x -> x.count(asked));
        }
        edges.none("count(100)", x -> x.count(100));
        for (int owner = 0; owner <= 7; owner++) {
            int asked = owner;
            edges.same("balance(" + owner + ")", 0, x -> x.balance(asked));
        }
    }

    private static void newObjectRefusesNumbers() {
        edges.in("promise 1: No STATIONS, and nothing else", x -> { });
        edges.none("trunk(1, 1, 0)", x -> x.trunk(1, 1, 0));
        edges.none("find(1)", x -> x.find(1));
        edges.none("find(0)", x -> x.find(0));
        edges.none("put(0)", x -> x.put(0));
        edges.none("bind()", x -> x.bind());
        edges.none("part(0, 1)", x -> x.part(0, 1));
        edges.none("crew(0)", x -> x.crew(0));
        edges.none("walk(0)", x -> x.walk(0));
        edges.none("breaks(0, true)", x -> x.breaks(0, true));
        edges.none("breaks(0, false)", x -> x.breaks(0, false));
        edges.none("sell(0)", x -> x.sell(0));
        edges.none("best(0, 0)", x -> x.best(0, 0));
        edges.none("passes(0, 0)", x -> x.passes(0, 0));
        edges.none("told(0, 0)", x -> x.told(0, 0));
        edges.none("raft(0, 0)", x -> x.raft(0, 0));
        edges.none("crewed(0, 0)", x -> x.crewed(0, 0));
    }

    private static void newObjectRefusesAsks() {
        edges.in("promise 1: No STATIONS, and nothing else", x -> { });
        edges.no("join(0, 0)", x -> x.join(0, 0));
        edges.no("join(0, 1)", x -> x.join(0, 1));
        edges.no("unbind(0)", x -> x.unbind(0));
        edges.no("ready(0, 0)", x -> x.ready(0, 0));
        edges.no("tie(0)", x -> x.tie(0));
        edges.no("storm(0, 0, 1)", x -> x.storm(0, 0, 1));
        edges.no("price(0, 0, 0, 0)", x -> x.price(0, 0, 0, 0));
    }

    private static void newObjectTakes() {
        edges.in("promise 1: what needs no STATION", x -> { });
        edges.is("go(1)", 1, x -> x.go(1));
        edges.yes("toll(0, 1)", x -> x.toll(0, 1));
        edges.yes("right(0, 0)", x -> x.right(0, 0));
        edges.is("advance(0, 1)", -1, x -> x.advance(0, 1));
        edges.is("station(0, 0, 0, false)", 0, x -> x.station(0, 0, 0, false));
    }

    private static void ofTheFirstNothingMatters() {
        edges.in("promise 2: Of the first one nothing of this matters", x -> { });
        for (int below : FAR) {
            for (int far : FAR) {
                edges.is("below " + below + ", what " + far, 0, x -> x.station(below, far, 1000, true));
                edges.is("below " + below + ", pond " + far, 0, x -> x.station(below, GOOD, far, false));
                edges.is("it has no pond", 0, x -> {
                    x.station(below, Rivers.weir(1, 1, 50), far, true);
                    x.go(1);
                    return x.count(100);
                });
            }
        }
        edges.in("promise 2: of the second one it does", x -> x.station(5, -7, 9999, false));
        edges.none("the same again", x -> x.station(5, -7, 9999, false));
    }

    private static void firstIsACity() {
        edges.in("terms: the first is a CITY", x -> x.station(0, 0, 0, false));
        edges.yes("price", x -> x.price(0, 0, 0, 0));
        edges.is("sell", 0, x -> x.sell(x.trunk(1, 1, 0)));
    }

    private static void twelveStations() {
        edges.in("terms: STATIONS have numbers as they come, at most 12", x -> Rivers.chain(x, 11, GOOD, 7));
        edges.is("the 12th", 11, x -> x.station(10, GOOD, 1, false));
        edges.none("below is that one itself", x -> x.station(11, GOOD, 1, false));
        edges.in("promise 2: NONE if 12 came", x -> Rivers.chain(x, 12, GOOD, 7));
        edges.same("count(1)", 12, x -> x.count(1));
        edges.same("count(111)", 7, x -> x.count(111));
        edges.none("the 13th, above the first", x -> x.station(0, GOOD, 1, false));
        edges.none("the 13th, above the last", x -> x.station(11, GOOD, 1, true));
        edges.none("above itself", x -> x.station(12, GOOD, 1, true));
        for (int came = 0; came < 12; came++) {
            int before = came;
            edges.in("terms: STATIONS have numbers as they come", x -> Rivers.chain(x, before, GOOD, 1));
            edges.is("behind " + came, came, x -> x.station(before - 1, GOOD, 1, false));
        }
    }

    private static void belowIsAnEarlierOne() {
        edges.in("promise 2: NONE if there is none such below", x -> Rivers.chain(x, 1, GOOD, 1));
        edges.range("below, of 1", 0, 0, 1, (x, n) -> x.station(n, GOOD, 1, false));
        edges.in("promise 2: NONE if there is none such below", x -> Rivers.chain(x, 5, GOOD, 1));
        edges.range("below, of 5", 0, 4, 5, (x, n) -> x.station(n, GOOD, 1, false));
    }

    private static int comesIn(RaftRivers x, int hours) {
        x.station(0, Rivers.weir(hours, 9, 0), 100, false);
        int raft = Rivers.readyRaft(x, 1, 1);
        x.go(1);
        return x.raft(raft, 6);
    }

    private static void hoursAway() {
        edges.in("terms: so many HOURS away (1 .. 20)", x -> Rivers.chain(x, 1, GOOD, 1));
        edges.span("hours", 1, 20, 1, (x, n) -> x.station(0, Rivers.weir(n, 60, 50), 1000, false));
        edges.is("1 hour away", 1, x -> comesIn(x, 1));
        edges.is("20 hours away", 20, x -> comesIn(x, 20));
    }

    /** The state of a raft that is so wide, behind an hour at a weir that lets one pass that is not wider. */
    private static int stateAt(RaftRivers x, int wide, int... thick) {
        x.station(0, Rivers.weir(1, wide, 0), 100, false);
        int raft = Rivers.readyRaft(x, 1, thick);
        x.go(1);
        return x.raft(raft, 0);
    }

    private static void howWide() {
        edges.in("terms: how WIDE a raft may be (1 .. 60)", x -> Rivers.chain(x, 1, GOOD, 1));
        edges.span("wide", 1, 60, 1, (x, n) -> x.station(0, Rivers.weir(20, n, 50), 1000, false));
        edges.none("99 wide", x -> x.station(0, Rivers.weir(1, 99, 0), 1, false));
        edges.is("1 in 1", 2, x -> stateAt(x, 1, 1));
        edges.is("2 in 1", 1, x -> stateAt(x, 1, 2));
        edges.is("60 in 60", 2, x -> stateAt(x, 60, 9, 9, 9, 9, 9, 9, 6));
        edges.is("61 in 60", 1, x -> stateAt(x, 60, 9, 9, 9, 9, 9, 9, 7));
    }

    private static int pondBehindAnHour(RaftRivers x, int comes, int holds) {
        x.station(0, Rivers.weir(1, 9, comes), holds, false);
        Rivers.readyLong(x, 1, 8);
        x.go(2);
        return x.count(101);
    }

    private static void whatComes() {
        edges.in("terms: what comes to it each HOUR (0 .. 50)", x -> Rivers.chain(x, 1, GOOD, 1));
        edges.span("what comes", 0, 50, 1, (x, n) -> x.station(0, Rivers.weir(20, 60, n), 1000, false));
        edges.none("999 come", x -> x.station(0, Rivers.weir(1, 1, 999), 1, false));
        edges.is("0 come to 0", 0, x -> pondBehindAnHour(x, 0, 40));
        edges.is("1 comes twice", 2, x -> pondBehindAnHour(x, 1, 40));
        edges.is("50 come to 960, and it is full", 1000, x -> pondBehindAnHour(x, 50, 1000));
        edges.is("20 come twice to 0: just full", 40, x -> pondBehindAnHour(x, 20, 40));
        edges.is("50 come to 0, and not above what it holds", 40, x -> pondBehindAnHour(x, 50, 40));
    }

    private static int pondOfNew(RaftRivers x, int pond) {
        return x.count(100 + x.station(0, GOOD, pond, false));
    }

    private static void whatAPondHolds() {
        edges.in("terms: a POND: how much it holds (0 .. 1000); it is full at first",
            x -> Rivers.chain(x, 1, GOOD, 1));
        edges.range("pond", 0, 1000, 1, (x, n) -> x.station(0, GOOD, n, false));
        edges.is("0 at first", 0, x -> pondOfNew(x, 0));
        edges.is("1 at first", 1, x -> pondOfNew(x, 1));
        edges.is("1000 at first", 1000, x -> pondOfNew(x, 1000));
        edges.is("one that holds 0 never gets more", 0, x -> {
            x.station(0, Rivers.weir(1, 1, 50), 0, false);
            x.go(500);
            return x.count(101);
        });
    }

    private static void whatAsAWhole() {
        edges.in("promise 2: NONE if that can't be", x -> Rivers.chain(x, 1, GOOD, 1));
        for (int what : new int[] {101000, 101050, 160000, 160050, 2001000, 2001050, 2060000, 2060050}) {
            edges.is("what " + what, 1, x -> x.station(0, what, 1, false));
        }
        for (int what : new int[] {Edges.LEAST, -2060050, -101000, -1000, -1, 0, 1, 1000, 60050, 99999, 100000,
            100050, 100999, 101051, 160051, 161000, 161050, 199999, 200000, 2000000, 2060051, 2061000, 2099999,
            2100000, 2101000, 2160050, Edges.MOST}) {
            edges.none("what " + what, x -> x.station(0, what, 1, false));
        }
    }

    private static void mayBeACity() {
        edges.in("terms: A STATION may be a CITY, too", x -> {
            Rivers.chain(x, 2, GOOD, 1);
            x.trunk(1, 1, 1);
        });
        edges.no("the second isn't", x -> x.price(1, 0, 0, 0));
        edges.none("the second isn't", x -> x.sell(0));
        edges.in("terms: A STATION may be a CITY, too", x -> Rivers.chain(x, 3, GOOD, 1));
        edges.yes("the third is", x -> x.price(2, 0, 0, 0));
        edges.is("the third is", 0, x -> x.sell(x.trunk(1, 1, 2)));
    }

    private static void trunks(RaftRivers x, int most) {
        Rivers.river(x, GOOD, 1);
        for (int i = 0; i < most; i++) {
            x.trunk(i + 1, Rivers.log(i % 8, i % 4, 1 + i % 9), i % 2);
        }
    }

    private static void hundredAndTwentyTrunks() {
        edges.in("terms: TRUNKS have numbers as they come, at most 120", x -> trunks(x, 119));
        edges.is("the 120th", 119, x -> x.trunk(500, 111, 1));
        edges.in("promise 3: NONE if 120 came", x -> trunks(x, 120));
        edges.none("the 121st", x -> x.trunk(500, 111, 1));
        edges.same("count(2)", 120, x -> x.count(2));
        edges.same("the last", 119, x -> x.find(120));
        edges.is("the last can be put", 1, x -> x.put(119));
        edges.noneSuch("put, trunk", 120, (x, n) -> x.put(n));
        edges.noneSuch("sell, trunk", 120, (x, n) -> x.sell(n));
        edges.noneSuch("told, trunk", 120, (x, n) -> x.told(n, 0));
        edges.in("promise 3: NONE if 120 came, though one is SOLD", x -> {
            trunks(x, 120);
            x.sell(0);
        });
        edges.none("the 121st", x -> x.trunk(500, 111, 1));
        edges.in("terms: numbers as they come", x -> trunks(x, 0));
        edges.is("the first", 0, x -> x.trunk(500, 111, 1));
    }

    private static void marks() {
        edges.in("terms: a MARK (1 .. 99999)", x -> Rivers.river(x, GOOD, 1));
        edges.range("mark", 1, 99999, 0, (x, n) -> x.trunk(n, 111, 1));
        edges.is("told(0, 0)", 1, x -> x.told(x.trunk(1, 111, 1), 0));
        edges.is("told(0, 0)", 99999, x -> x.told(x.trunk(99999, 111, 1), 0));
    }

    private static void noTwoMarksAlike() {
        edges.in("promise 3: NONE if the MARK is told already", x -> {
            Rivers.river(x, GOOD, 1);
            x.trunk(50, 111, 1);
            x.trunk(99999, 111, 0);
            x.trunk(1, 111, 0);
        });
        edges.none("again", x -> x.trunk(50, 222, 0));
        edges.none("the greatest again", x -> x.trunk(99999, 111, 0));
        edges.none("the last again", x -> x.trunk(1, 111, 0));
        edges.is("one less", 3, x -> x.trunk(49, 111, 1));
        edges.is("one more", 3, x -> x.trunk(51, 111, 1));
        edges.in("promise 3: a MARK that was refused isn't told", x -> {
            Rivers.river(x, GOOD, 1);
            x.trunk(50, 110, 1);
            x.trunk(50, 111, 2);
        });
        edges.none("find(50)", x -> x.find(50));
        edges.is("trunk(50, 111, 1)", 0, x -> x.trunk(50, 111, 1));
    }

    private static void marksStayTaken() {
        edges.in("promise 3: NONE if the MARK is told already, wherever its TRUNK is", Rivers::states);
        edges.none("of one in a raft that is under way", x -> x.trunk(1005, 111, 1));
        edges.in("promise 3: NONE if the MARK is told already, wherever its TRUNK is", x -> {
            Rivers.states(x);
            x.breaks(Rivers.UNDER_WAY, true);
            x.sell(x.trunk(7, 111, 0));
            x.put(x.trunk(8, 111, 0));
        });
        edges.none("of one that is lost", x -> x.trunk(1005, 111, 1));
        edges.none("of one that is sold", x -> x.trunk(7, 111, 1));
        edges.none("of one in the next row", x -> x.trunk(8, 111, 1));
        edges.none("of one in a raft that is tied", x -> x.trunk(1000, 111, 1));
        edges.none("of one in a raft that is ready", x -> x.trunk(1002, 111, 1));
        edges.same("find, lost", 5, x -> x.find(1005));
        edges.same("find, sold", 8, x -> x.find(7));
        edges.same("find, in the next row", 9, x -> x.find(8));
    }

    private static int newTrunkTells(RaftRivers x, int what, int asked) {
        return x.told(x.trunk(5, what, 1), asked);
    }

    private static void ownerSortThickness() {
        edges.in("terms: an OWNER (0 .. 7), a SORT (0 .. 3), a THICKNESS (1 .. 9)", x -> Rivers.river(x, GOOD, 1));
        edges.span("owner", 0, 7, 0, (x, n) -> x.trunk(5, Rivers.log(n, 3, 9), 1));
        edges.none("owner 9", x -> x.trunk(5, 911, 1));
        edges.is("sort 0", 0, x -> x.trunk(5, 701, 1));
        edges.is("sort 3", 0, x -> x.trunk(5, 739, 1));
        edges.none("sort 4", x -> x.trunk(5, 41, 1));
        edges.none("sort 9", x -> x.trunk(5, 791, 1));
        edges.is("thickness 1", 0, x -> x.trunk(5, 1, 1));
        edges.is("thickness 9", 0, x -> x.trunk(5, 9, 1));
        edges.none("thickness 0", x -> x.trunk(5, 730, 1));
        for (int what : new int[] {1, 9, 31, 39, 701, 709, 731, 739}) {
            edges.is("owner of " + what, what / 100, x -> newTrunkTells(x, what, 1));
            edges.is("sort of " + what, what / 10 % 10, x -> newTrunkTells(x, what, 2));
            edges.is("thickness of " + what, what % 10, x -> newTrunkTells(x, what, 3));
        }
    }

    private static void whatOfATrunkAsAWhole() {
        edges.in("promise 3: NONE if that can't be", x -> Rivers.river(x, GOOD, 1));
        for (int what : new int[] {Edges.LEAST, -739, -100, -99, -1, 0, 10, 30, 40, 41, 49, 99, 100, 700, 730, 740,
            741, 749, 799, 800, 801, 839, 1001, 10001, 100111, Edges.MOST}) {
            edges.none("what " + what, x -> x.trunk(5, what, 1));
        }
    }

    private static void stationOfATrunk() {
        edges.in("promise 3: NONE if there is no such STATION", x -> Rivers.river(x, GOOD, 1));
        edges.range("station, of 2", 0, 1, 0, (x, n) -> x.trunk(5, 111, n));
        edges.in("terms: each LIES at a STATION at first", x -> Rivers.chain(x, 12, GOOD, 1));
        edges.range("station, of 12", 0, 11, 0, (x, n) -> x.trunk(5, 111, n));
        for (int station : new int[] {0, 11}) {
            edges.is("it lies", 0, x -> x.told(x.trunk(5, 111, station), 4));
            edges.is("there", station, x -> x.told(x.trunk(5, 111, station), 5));
        }
    }

    private static void findsMarks() {
        edges.in("promise 4: The TRUNK with a MARK; NONE if there is none", x -> {
            Rivers.river(x, GOOD, 1);
            x.trunk(99999, 111, 1);
            x.trunk(1, 111, 0);
            x.trunk(500, 111, 0);
        });
        edges.same("the greatest", 0, x -> x.find(99999));
        edges.same("the least", 1, x -> x.find(1));
        edges.same("the last", 2, x -> x.find(500));
        for (int mark : new int[] {Edges.LEAST, -500, -1, 0, 2, 499, 501, 99998, 100000, Edges.MOST}) {
            edges.none("find(" + mark + ")", x -> x.find(mark));
        }
    }
}
