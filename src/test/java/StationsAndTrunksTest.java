/** Promises 1 to 4: a new object, station, trunk, find. */
public final class StationsAndTrunksTest {
    private static final Due due = new Due();

    public static void main(String[] args) {
        newObject();
        stationsCome();
        stationLimits();
        firstStation();
        stationCount();
        trunksCome();
        trunkLimits();
        trunkCount();
        find();
        due.end();
    }

    private static void newObject() {
        due.part("promise 1");
        RaftRivers x = new RaftRivers();
        for (int what = 0; what <= 7; what++) {
            due.is("count(" + what + ")", x.count(what), 0);
        }
        due.none("count(100)", x.count(100));
        due.none("told(0, 0)", x.told(0, 0));
        due.none("raft(0, 0)", x.raft(0, 0));
        due.none("crewed(0, 0)", x.crewed(0, 0));
        due.none("find(0)", x.find(0));
        due.none("bind()", x.bind());
        due.none("put(0)", x.put(0));
        due.none("crew(0)", x.crew(0));
        due.none("trunk without a station", x.trunk(1, 1, 0));
        due.no("storm without a station", x.storm(0, 0, 1));
        due.no("price without a station", x.price(0, 0, 0, 1));
        due.none("best(0, 0)", x.best(0, 0));
        due.none("passes(0, 0)", x.passes(0, 0));
        for (int owner = 0; owner <= 7; owner++) {
            due.is("balance", x.balance(owner), 0);
        }
        RaftRivers other = new RaftRivers();
        other.station(0, 0, 0, false);
        due.is("one object is not another", x.count(1), 0);
    }

    private static void stationsCome() {
        due.part("promise 2");
        RaftRivers x = new RaftRivers();
        due.is("first", x.station(0, 0, 0, false), 0);
        due.is("second", x.station(0, Rivers.weir(3, 20, 2), 50, false), 1);
        due.is("third", x.station(1, Rivers.weir(20, 60, 50), 1000, true), 2);
        due.is("fourth", x.station(0, Rivers.weir(1, 1, 0), 0, false), 3);
        due.is("count(1)", x.count(1), 4);
        due.is("full at first", x.count(101), 50);
        due.is("full at first", x.count(102), 1000);
        due.is("full at first", x.count(103), 0);
        due.yes("station 2 is a city", x.price(2, 0, 0, 1));
        due.no("station 1 is none", x.price(1, 0, 0, 1));
    }

    private static void stationLimits() {
        due.part("promise 2, what can't be");
        RaftRivers x = Rivers.two();
        int good = Rivers.weir(1, 1, 0);
        due.none("0 hours", x.station(0, Rivers.weir(0, 1, 0), 1, false));
        due.none("21 hours", x.station(0, Rivers.weir(21, 1, 0), 1, false));
        due.none("0 wide", x.station(0, Rivers.weir(1, 0, 0), 1, false));
        due.none("61 wide", x.station(0, Rivers.weir(1, 61, 0), 1, false));
        due.none("51 come", x.station(0, Rivers.weir(1, 1, 51), 1, false));
        due.none("999 come", x.station(0, Rivers.weir(1, 1, 999), 1, false));
        due.none("less than nothing", x.station(0, -good, 1, false));
        due.none("far less", x.station(0, Integer.MIN_VALUE, 1, false));
        due.none("far more", x.station(0, Integer.MAX_VALUE, 1, false));
        due.none("pond -1", x.station(0, good, -1, false));
        due.none("pond 1001", x.station(0, good, 1001, false));
        due.none("below -1", x.station(-1, good, 1, false));
        due.none("below itself", x.station(2, good, 1, false));
        due.none("below far", x.station(Integer.MAX_VALUE, good, 1, false));
        due.is("nothing came", x.count(1), 2);
        due.is("the next number is whole", x.station(1, good, 1, false), 2);
    }

    private static void firstStation() {
        due.part("promise 2, the first one");
        RaftRivers x = new RaftRivers();
        due.is("nothing matters", x.station(77, -5, 700, false), 0);
        due.yes("it is a city", x.price(0, 0, 0, 1));
        due.is("it has no pond", x.count(100), 0);
        x.go(3);
        due.is("nothing comes to it", x.count(100), 0);
    }

    private static void stationCount() {
        due.part("promise 2, 12 came");
        RaftRivers x = new RaftRivers();
        for (int i = 0; i < 12; i++) {
            due.is("station", x.station(i - 1, Rivers.weir(1, 1, 0), 1, false), i);
        }
        due.none("the 13th", x.station(0, Rivers.weir(1, 1, 0), 1, false));
        due.is("count(1)", x.count(1), 12);
        due.is("count(111)", x.count(111), 1);
    }

    private static void trunksCome() {
        due.part("promise 3");
        RaftRivers x = Rivers.two();
        due.is("first", x.trunk(99999, 739, 1), 0);
        due.is("second", x.trunk(1, 1, 0), 1);
        due.is("mark", x.told(0, 0), 99999);
        due.is("owner", x.told(0, 1), 7);
        due.is("sort", x.told(0, 2), 3);
        due.is("thickness", x.told(0, 3), 9);
        due.is("it lies", x.told(0, 4), 0);
        due.is("there", x.told(0, 5), 1);
        due.is("owner", x.told(1, 1), 0);
        due.is("sort", x.told(1, 2), 0);
        due.is("thickness", x.told(1, 3), 1);
        due.is("there", x.told(1, 5), 0);
        due.is("count(2)", x.count(2), 2);
    }

    private static void trunkLimits() {
        due.part("promise 3, what can't be");
        RaftRivers x = Rivers.two();
        x.trunk(50, 111, 1);
        due.none("mark 0", x.trunk(0, 111, 1));
        due.none("mark -1", x.trunk(-1, 111, 1));
        due.none("mark 100000", x.trunk(100000, 111, 1));
        due.none("mark again", x.trunk(50, 222, 0));
        due.none("owner 8", x.trunk(51, 801, 1));
        due.none("sort 4", x.trunk(51, 41, 1));
        due.none("sort 9", x.trunk(51, 91, 1));
        due.none("thickness 0", x.trunk(51, 110, 1));
        due.none("what -1", x.trunk(51, -1, 1));
        due.none("what -111", x.trunk(51, -111, 1));
        due.none("what least", x.trunk(51, Integer.MIN_VALUE, 1));
        due.none("what most", x.trunk(51, Integer.MAX_VALUE, 1));
        due.none("station 2", x.trunk(51, 111, 2));
        due.none("station -1", x.trunk(51, 111, -1));
        due.is("nothing came", x.count(2), 1);
        due.none("a refused mark isn't told", x.find(51));
        due.is("so it can be told", x.trunk(51, 111, 1), 1);
        x.sell(x.trunk(52, 111, 0));
        due.none("nor is the mark of a sold one free", x.trunk(52, 111, 0));
    }

    private static void trunkCount() {
        due.part("promise 3, 120 came");
        RaftRivers x = Rivers.two();
        for (int i = 0; i < 120; i++) {
            due.is("trunk", x.trunk(i + 1, 111, i % 2), i);
        }
        due.none("the 121st", x.trunk(500, 111, 1));
        due.is("count(2)", x.count(2), 120);
        due.is("the last", x.find(120), 119);
    }

    private static void find() {
        due.part("promise 4");
        RaftRivers x = Rivers.two();
        x.trunk(99999, 111, 0);
        x.trunk(7, 111, 1);
        due.is("find(99999)", x.find(99999), 0);
        due.is("find(7)", x.find(7), 1);
        due.none("find(8)", x.find(8));
        due.none("find(0)", x.find(0));
        due.none("find(-1)", x.find(-1));
        x.sell(0);
        due.is("sold, and still found", x.find(99999), 0);
        x.put(1);
        x.bind();
        due.is("bound, and still found", x.find(7), 1);
    }
}
