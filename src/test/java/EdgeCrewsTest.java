/** Edges of promises 10 to 13, and of what the terms say of CREWS. */
public final class EdgeCrewsTest {
    private static final Due due = new Due();
    private static final Edges edges = new Edges(due);

    public static void main(String[] args) {
        homeIsAStation();
        tenCrews();
        readiesWhatIsTied();
        readiesNothingAtTheFirstStation();
        readiesWithACrewThere();
        readiesWhatCantPass();
        restsAtFirst();
        restsBehindARaft();
        restsBehindAWalk();
        restsBehindABreak();
        restsNotBehindATie();
        tiesWhatIsReady();
        tiesWithItsCrew();
        walksOneThatCame();
        walksFromAStation();
        walksHome();
        walksTwiceAsLong();
        walksToTheLastHour();
        due.end();
    }

    private static void homeIsAStation() {
        edges.in("promise 10: NONE if there is no such STATION", x -> Rivers.river(x, Rivers.weir(1, 1, 1), 1));
        edges.range("home, of 2", 0, 1, 0, (x, n) -> x.crew(n));
        edges.in("promise 10: NONE if there is no such STATION", x -> Rivers.chain(x, 12, Rivers.weir(1, 1, 1), 1));
        edges.range("home, of 12", 0, 11, 0, (x, n) -> x.crew(n));
        edges.is("it is at its home", 11, x -> x.crewed(x.crew(11), 1));
        edges.is("it is at its home", 0, x -> x.crewed(x.crew(0), 1));
    }

    private static void crews(RaftRivers x, int most) {
        Rivers.river(x, Rivers.weir(1, 9, 1), 100);
        for (int i = 0; i < most; i++) {
            x.crew(i % 2);
        }
    }

    private static void tenCrews() {
        for (int came = 0; came < 10; came++) {
            int before = came;
            edges.in("terms: CREWS have numbers as they come, at most 10", x -> crews(x, before));
            edges.is("behind " + came, came, x -> x.crew(1));
        }
        edges.in("promise 10: NONE if 10 came", x -> crews(x, 10));
        edges.none("the 11th", x -> x.crew(1));
        edges.none("the 11th", x -> x.crew(0));
        edges.same("count(4)", 10, x -> x.count(4));
        edges.same("the 10th", 1, x -> x.crewed(9, 1));
        edges.noneSuch("crewed, crew", 10, (x, n) -> x.crewed(n, 0));
        edges.noneSuch("walk, crew", 10, (x, n) -> x.walk(n));
        edges.yes("the 10th can go", x -> x.ready(Rivers.raft(x, 1, 1), 9));
    }

    private static void readiesWhatIsTied() {
        edges.in("promise 11: false if it isn't TIED", Rivers::states);
        edges.yes("tied", x -> x.ready(Rivers.TIED, Rivers.CREW_HERE));
        edges.noSuch("raft", 6, (x, n) -> x.ready(n, Rivers.CREW_HERE));
        edges.no("no more", x -> x.ready(Rivers.NO_MORE, Rivers.CREW_HERE));
        edges.no("ready", x -> x.ready(Rivers.READY, Rivers.CREW_HERE));
        edges.no("ready, with its own", x -> x.ready(Rivers.READY, Rivers.CREW_READY));
        edges.no("under way", x -> x.ready(Rivers.UNDER_WAY, Rivers.CREW_HERE));
        edges.no("under way, with one where it comes", x -> x.ready(Rivers.UNDER_WAY, Rivers.CREW_LOW));
    }

    private static void readiesNothingAtTheFirstStation() {
        edges.in("promise 11: false if it is at the first STATION", Rivers::states);
        edges.no("with one there", x -> x.ready(Rivers.LOW, Rivers.CREW_LOW));
        edges.in("promise 11: it is TIED at another", x -> Rivers.chain(x, 12, Rivers.weir(1, 9, 1), 100));
        edges.yes("the second", x -> x.ready(Rivers.raft(x, 1, 1), x.crew(1)));
        edges.yes("the last", x -> x.ready(Rivers.raft(x, 11, 1), x.crew(11)));
    }

    private static void readiesWithACrewThere() {
        edges.in("promise 11: false if there is no such CREW there", Rivers::states);
        edges.noSuch("crew", 4, (x, n) -> x.ready(Rivers.TIED, n));
        edges.no("one elsewhere", x -> x.ready(Rivers.TIED, Rivers.CREW_LOW));
        edges.no("one on a raft that is ready", x -> x.ready(Rivers.TIED, Rivers.CREW_READY));
        edges.no("one on a raft that is under way", x -> x.ready(Rivers.TIED, Rivers.CREW_UNDER_WAY));
        edges.in("promise 11: false if there is no such CREW there", x -> {
            Rivers.states(x);
            x.go(3);
            x.walk(Rivers.CREW_UNDER_WAY);
        });
        edges.no("one on foot to it", x -> x.ready(Rivers.TIED, Rivers.CREW_UNDER_WAY));
    }

    private static void readiesWhatCantPass() {
        edges.in("terms: READY there, though it can't pass", x -> {
            Rivers.river(x, Rivers.weir(1, 1, 0), 0);
            Rivers.raft(x, 1, 9, 9);
            x.crew(1);
        });
        edges.yes("too wide, and no water", x -> x.ready(0, 0));
    }

    private static void restsAtFirst() {
        edges.in("terms: at first it can at once", x -> Rivers.chain(x, 2, Rivers.weir(1, 9, 1), 100));
        edges.yes("in hour 0", x -> x.ready(Rivers.raft(x, 1, 1), x.crew(1)));
        edges.is("it doesn't rest", 0, x -> x.crewed(x.crew(1), 3));
        edges.in("terms: at first it can at once", x -> {
            Rivers.chain(x, 2, Rivers.weir(1, 9, 1), 100);
            Rivers.goTo(x, 20000);
        });
        edges.yes("in hour 20000", x -> x.ready(Rivers.raft(x, 1, 1), x.crew(1)));
    }

    /** Station 2 above 1 above 0, an hour each; raft 0 came with crew 0 to station 1 in hour 1; raft 1 is at 1. */
    private static void come(RaftRivers x, int hour) {
        Rivers.chain(x, 3, Rivers.weir(1, 9, 1), 100);
        Rivers.readyRaft(x, 2, 1);
        Rivers.raft(x, 1, 1);
        Rivers.goTo(x, hour);
    }

    private static void restsBehindARaft() {
        for (int hour : new int[] {2, 3, 8}) {
            edges.in("terms: at least 8 HOURS came behind its coming there: " + (hour - 1), x -> come(x, hour));
            edges.no("the same raft", x -> x.ready(0, 0));
            edges.no("another", x -> x.ready(1, 0));
            edges.same("it rests", 1, x -> x.crewed(0, 3));
            edges.yes("another crew", x -> x.ready(0, x.crew(1)));
        }
        for (int hour : new int[] {9, 10, 300}) {
            edges.in("terms: at least 8 HOURS came behind its coming there: " + (hour - 1), x -> come(x, hour));
            edges.yes("the same raft", x -> x.ready(0, 0));
            edges.yes("another", x -> x.ready(1, 0));
            edges.same("it doesn't rest", 0, x -> x.crewed(0, 3));
        }
    }

    /** As come(), but crew 0 walks home in hour 2, and comes there in hour 4; raft 2 is there. */
    private static void walked(RaftRivers x, int hour) {
        come(x, 2);
        x.walk(0);
        Rivers.raft(x, 2, 1);
        Rivers.goTo(x, hour);
    }

    private static void restsBehindAWalk() {
        edges.in("terms: REST behind coming home: not there yet", x -> walked(x, 4));
        edges.no("on foot", x -> x.ready(2, 0));
        edges.same("on foot", 2, x -> x.crewed(0, 0));
        edges.same("who is on foot doesn't rest", 0, x -> x.crewed(0, 3));
        edges.in("terms: REST behind coming home: 1 HOUR", x -> walked(x, 5));
        edges.no("it rests", x -> x.ready(2, 0));
        edges.same("it rests", 1, x -> x.crewed(0, 3));
        edges.in("terms: REST behind coming home: 7 HOURS", x -> walked(x, 11));
        edges.no("it rests", x -> x.ready(2, 0));
        edges.same("it rests", 1, x -> x.crewed(0, 3));
        edges.in("terms: REST behind coming home: 8 HOURS", x -> walked(x, 12));
        edges.yes("ready", x -> x.ready(2, 0));
        edges.same("it doesn't rest", 0, x -> x.crewed(0, 3));
    }

    /** A raft breaks on its way from station 2 to station 1, behind two hours; raft 1 is at station 1. */
    private static void broken(RaftRivers x, int hour) {
        Rivers.chain(x, 3, Rivers.weir(5, 9, 1), 100);
        Rivers.readyRaft(x, 2, 1);
        Rivers.raft(x, 1, 1);
        x.go(2);
        x.breaks(0, true);
        Rivers.goTo(x, hour);
    }

    private static void restsBehindABreak() {
        edges.in("terms: BROKEN: this is its coming there: 0 HOURS", x -> broken(x, 2));
        edges.no("it rests", x -> x.ready(1, 0));
        edges.same("it rests", 1, x -> x.crewed(0, 3));
        edges.in("terms: BROKEN: this is its coming there: 7 HOURS", x -> broken(x, 9));
        edges.no("it rests", x -> x.ready(1, 0));
        edges.same("it rests", 1, x -> x.crewed(0, 3));
        edges.in("terms: BROKEN: this is its coming there: 8 HOURS", x -> broken(x, 10));
        edges.yes("ready", x -> x.ready(1, 0));
        edges.same("it doesn't rest", 0, x -> x.crewed(0, 3));
    }

    private static void restsNotBehindATie() {
        edges.in("promise 12: it needn't REST", x -> {
            Rivers.states(x);
            x.tie(Rivers.READY);
        });
        edges.same("it doesn't rest", 0, x -> x.crewed(Rivers.CREW_READY, 3));
        edges.yes("the same raft", x -> x.ready(Rivers.READY, Rivers.CREW_READY));
        edges.yes("another", x -> x.ready(Rivers.TIED, Rivers.CREW_READY));
        edges.in("promise 12: it needn't REST, having come 8 HOURS before", x -> {
            come(x, 9);
            x.ready(0, 0);
            x.tie(0);
        });
        edges.same("it doesn't rest", 0, x -> x.crewed(0, 3));
        edges.yes("another", x -> x.ready(1, 0));
    }

    private static void tiesWhatIsReady() {
        edges.in("promise 12: false if it isn't READY", Rivers::states);
        edges.yes("ready", x -> x.tie(Rivers.READY));
        edges.noSuch("raft", 6, (x, n) -> x.tie(n));
        edges.no("tied", x -> x.tie(Rivers.TIED));
        edges.no("tied at the first station", x -> x.tie(Rivers.LOW));
        edges.no("no more", x -> x.tie(Rivers.NO_MORE));
        edges.no("under way", x -> x.tie(Rivers.UNDER_WAY));
        edges.in("promise 12: false if it isn't READY any more", x -> {
            Rivers.states(x);
            x.tie(Rivers.READY);
        });
        edges.no("again", x -> x.tie(Rivers.READY));
    }

    private static void tiesWithItsCrew() {
        edges.in("promise 12: It is TIED again, the CREW AT the STATION", x -> {
            Rivers.states(x);
            x.tie(Rivers.READY);
        });
        int[] raft = {0, 1, 1, 3, 27, Edges.NONE, Edges.NONE};
        for (int what = 0; what < raft.length; what++) {
            int asked = what;
            edges.same("raft, " + what, raft[what], x -> x.raft(Rivers.READY, asked));
        }
        int[] crew = {0, 1, Edges.NONE, 0};
        for (int what = 0; what < crew.length; what++) {
            int asked = what;
            edges.same("crew, " + what, crew[what], x -> x.crewed(Rivers.CREW_READY, asked));
        }
    }

    private static void walksOneThatCame() {
        edges.in("promise 13: NONE if there is no such CREW", x -> come(x, 2));
        edges.is("it has come down", 4, x -> x.walk(0));
        edges.noneSuch("crew", 1, (x, n) -> x.walk(n));
    }

    private static void walksFromAStation() {
        edges.in("promise 13: NONE if there is no such CREW AT a STATION", Rivers::states);
        edges.none("on a raft that is ready", x -> x.walk(Rivers.CREW_READY));
        edges.none("on a raft that is under way", x -> x.walk(Rivers.CREW_UNDER_WAY));
        edges.in("promise 13: NONE if there is no such CREW AT a STATION", x -> walked(x, 2));
        edges.none("on foot", x -> x.walk(0));
        edges.in("promise 13: NONE if there is no such CREW AT a STATION", x -> walked(x, 4));
        edges.none("on foot, in the hour in which it comes", x -> x.walk(0));
    }

    private static void walksHome() {
        edges.in("promise 13: NONE if it is its HOME", Rivers::states);
        edges.none("where it came", x -> x.walk(Rivers.CREW_HERE));
        edges.none("at the first station", x -> x.walk(Rivers.CREW_LOW));
        edges.in("promise 13: NONE if it is its HOME", x -> walked(x, 5));
        edges.none("where it walked", x -> x.walk(0));
        edges.in("promise 13: NONE if it is its HOME", x -> {
            Rivers.states(x);
            x.tie(Rivers.READY);
        });
        edges.none("where it was tied", x -> x.walk(Rivers.CREW_READY));
    }

    /** A crew of the last of so many stations goes down to the first one, with a rest at each on its way. */
    private static void wholeWay(RaftRivers x, int stations, int hours) {
        Rivers.chain(x, stations, Rivers.weir(hours, 9, 1), 100);
        Rivers.raft(x, stations - 1, 1);
        x.crew(stations - 1);
        for (int i = 1; i < stations; i++) {
            x.ready(0, 0);
            x.go(hours + 9);
        }
    }

    private static int walkTakes(RaftRivers x) {
        return x.walk(0) - x.count(0);
    }

    private static void walksTwiceAsLong() {
        edges.in("terms: A CREW on foot takes twice as many HOURS: of 1", x -> wholeWay(x, 2, 1));
        edges.is("walk", 2, EdgeCrewsTest::walkTakes);
        edges.in("terms: A CREW on foot takes twice as many HOURS: of 20", x -> wholeWay(x, 2, 20));
        edges.is("walk", 40, EdgeCrewsTest::walkTakes);
        edges.in("terms: A CREW on foot takes twice as many HOURS: of 11 times 20", x -> wholeWay(x, 12, 20));
        edges.is("walk", 440, EdgeCrewsTest::walkTakes);
        edges.is("it comes in the last of them", 0, x -> {
            x.walk(0);
            x.go(440);
            return x.crewed(0, 0) == 2 && x.go(1) > 0 ? x.crewed(0, 0) : Edges.NONE;
        });
        edges.is("to its home", 11, x -> {
            x.walk(0);
            x.go(441);
            return x.crewed(0, 1);
        });
    }

    /** Crew 0 begins to walk home from station 0 in this hour, and then all hours pass. */
    private static void lateWalk(RaftRivers x, int hour) {
        Rivers.chain(x, 2, Rivers.weir(1, 9, 1), 100);
        Rivers.readyRaft(x, 1, 1);
        Rivers.goTo(x, hour);
    }

    private static void walksToTheLastHour() {
        for (int hour : new int[] {19997, 19998, 19999, 20000}) {
            edges.in("terms: HOURS are 0 .. 20000: on foot from " + hour, x -> lateWalk(x, hour));
            edges.is("walk", hour + 2, x -> x.walk(0));
            edges.is("the hour 20000 never passes", hour + 2 < 20000 ? 0 : 2, x -> {
                x.walk(0);
                Rivers.goTo(x, 20000);
                return x.crewed(0, 0);
            });
        }
    }
}
