/** Promises 10 to 13: crew, ready, tie, walk. */
public final class CrewsTest {
    private static final Due due = new Due();

    public static void main(String[] args) {
        crew();
        ready();
        readyRefused();
        rest();
        tie();
        walk();
        walkRefused();
        restAtHome();
        walkWhileResting();
        due.end();
    }

    private static void crew() {
        due.part("promise 10");
        RaftRivers x = Rivers.two();
        due.none("crew(2)", x.crew(2));
        due.none("crew(-1)", x.crew(-1));
        for (int i = 0; i < 10; i++) {
            due.is("crew", x.crew(i % 2), i);
            due.is("at a station", x.crewed(i, 0), 0);
            due.is("its home", x.crewed(i, 1), i % 2);
            due.is("it doesn't rest", x.crewed(i, 3), 0);
        }
        due.none("10 came", x.crew(0));
        due.is("count(4)", x.count(4), 10);
    }

    private static void ready() {
        due.part("promise 11");
        RaftRivers x = Rivers.two();
        int raft = Rivers.raft(x, 1, 4);
        int crew = x.crew(1);
        due.yes("ready", x.ready(raft, crew));
        due.is("ready", x.raft(raft, 0), 1);
        due.is("its crew", x.raft(raft, 5), crew);
        due.is("still there", x.raft(raft, 1), 1);
        due.none("doesn't come", x.raft(raft, 6));
        due.is("on a raft", x.crewed(crew, 0), 1);
        due.none("at no station", x.crewed(crew, 1));
        due.is("doesn't rest", x.crewed(crew, 3), 0);
        int wide = Rivers.raft(x, 1, 9, 9, 9);
        due.yes("one that is too wide can be ready, too", x.ready(wide, x.crew(1)));
    }

    private static void readyRefused() {
        due.part("promise 11, refused");
        RaftRivers x = Rivers.two();
        int raft = Rivers.raft(x, 1, 4);
        int other = Rivers.raft(x, 1, 4);
        int low = Rivers.raft(x, 0, 4);
        int here = x.crew(1);
        int there = x.crew(0);
        due.no("at the first station", x.ready(low, there));
        due.no("crew elsewhere", x.ready(raft, there));
        due.no("no such crew", x.ready(raft, 2));
        due.no("no such crew", x.ready(raft, -1));
        due.no("no such raft", x.ready(3, here));
        due.no("no such raft", x.ready(-1, here));
        due.yes("ready", x.ready(raft, here));
        due.no("the crew is on a raft", x.ready(other, here));
        int second = x.crew(1);
        due.no("it is ready already", x.ready(raft, second));
        due.is("the crew stays", x.crewed(second, 1), 1);
        due.is("its crew stays", x.raft(raft, 5), here);
        x.go(1);
        due.no("under way", x.ready(raft, second));
        x.unbind(other);
        due.no("no more", x.ready(other, second));
        x.go(3);
        due.no("at the first station", x.ready(raft, there));
    }

    private static void rest() {
        due.part("promise 11, rest");
        RaftRivers x = Rivers.two();
        x.station(1, Rivers.weir(2, 20, 0), 100, false);
        int raft = Rivers.raft(x, 2, 4);
        int crew = Rivers.ready(x, raft);
        x.go(2);
        due.is("on its way", x.crewed(crew, 0), 1);
        x.go(1);
        due.is("it came in hour 2", x.crewed(crew, 1), 1);
        due.is("rests", x.crewed(crew, 3), 1);
        due.no("rests", x.ready(raft, crew));
        x.go(6);
        due.is("NOW", x.count(0), 9);
        due.is("7 hours: rests", x.crewed(crew, 3), 1);
        due.no("7 hours: rests", x.ready(raft, crew));
        x.go(1);
        due.is("8 hours: doesn't", x.crewed(crew, 3), 0);
        due.yes("8 hours: ready", x.ready(raft, crew));
        RaftRivers y = Rivers.two();
        y.go(100);
        int late = Rivers.raft(y, 1, 4);
        due.yes("at first it can at once", y.ready(late, y.crew(1)));
    }

    private static void tie() {
        due.part("promise 12");
        RaftRivers x = Rivers.two();
        int raft = Rivers.raft(x, 1, 4);
        due.no("tied", x.tie(raft));
        due.no("none such", x.tie(1));
        due.no("none such", x.tie(-1));
        int crew = Rivers.ready(x, raft);
        due.yes("tie", x.tie(raft));
        due.is("tied", x.raft(raft, 0), 0);
        due.none("no crew", x.raft(raft, 5));
        due.is("there", x.raft(raft, 1), 1);
        due.is("at the station", x.crewed(crew, 0), 0);
        due.is("at the station", x.crewed(crew, 1), 1);
        due.is("needn't rest", x.crewed(crew, 3), 0);
        due.no("tied already", x.tie(raft));
        x.go(2);
        due.is("it didn't go", x.raft(raft, 0), 0);
        due.yes("ready again at once", x.ready(raft, crew));
        x.go(1);
        due.no("under way", x.tie(raft));
        x.go(3);
        x.unbind(raft);
        due.no("no more", x.tie(raft));
    }

    /** 3 above 2 above 1 above 0, and 4 above 1. */
    private static RaftRivers tree() {
        RaftRivers x = Rivers.two();
        x.station(1, Rivers.weir(5, 20, 5), 100, false);
        x.station(2, Rivers.weir(7, 20, 5), 100, false);
        x.station(1, Rivers.weir(2, 20, 5), 100, false);
        return x;
    }

    private static void walk() {
        due.part("promise 13");
        RaftRivers x = tree();
        int raft = Rivers.raft(x, 3, 4);
        int crew = Rivers.ready(x, raft);
        x.go(8);
        due.is("at 2", x.crewed(crew, 1), 2);
        int second = x.crew(2);
        due.yes("the next crew", x.ready(raft, second));
        due.is("home in 14 hours", x.walk(crew), 22);
        due.is("on foot", x.crewed(crew, 0), 2);
        due.none("at no station", x.crewed(crew, 1));
        due.is("comes", x.crewed(crew, 2), 22);
        x.go(6);
        due.is("second at 1", x.crewed(second, 1), 1);
        due.is("walks at once, without rest", x.walk(second), 24);
        x.go(8);
        due.is("hour 22 hasn't passed", x.crewed(crew, 0), 2);
        x.go(1);
        due.is("home", x.crewed(crew, 0), 0);
        due.is("home", x.crewed(crew, 1), 3);
        due.none("come", x.crewed(crew, 2));
        due.is("second is on foot", x.crewed(second, 0), 2);
        x.go(2);
        due.is("second is home", x.crewed(second, 1), 2);
    }

    private static void walkRefused() {
        due.part("promise 13, refused");
        RaftRivers x = tree();
        int raft = Rivers.raft(x, 4, 4);
        int fromFour = Rivers.ready(x, raft);
        due.none("none such", x.walk(1));
        due.none("none such", x.walk(-1));
        due.none("on a raft", x.walk(fromFour));
        x.go(1);
        due.none("under way", x.walk(fromFour));
        x.go(2);
        int fromOne = x.crew(1);
        due.none("at home", x.walk(fromOne));
        x.ready(raft, fromOne);
        x.go(4);
        due.is("up two", x.walk(fromFour), 7 + 4);
        due.none("on foot", x.walk(fromFour));
        due.is("from the first", x.walk(fromOne), 7 + 6);
        due.none("at home, at the first station", x.walk(x.crew(0)));
    }

    private static void restAtHome() {
        due.part("promise 13, rest behind coming home");
        RaftRivers x = Rivers.two();
        int raft = Rivers.raft(x, 1, 4);
        int next = Rivers.raft(x, 1, 4);
        int crew = Rivers.ready(x, raft);
        x.go(20);
        due.is("rested below", x.crewed(crew, 3), 0);
        due.is("walk", x.walk(crew), 26);
        x.go(6);
        due.no("not home yet", x.ready(next, crew));
        due.is("on foot it doesn't rest", x.crewed(crew, 3), 0);
        x.go(1);
        due.is("rests", x.crewed(crew, 3), 1);
        due.no("rests", x.ready(next, crew));
        x.go(6);
        due.no("rests", x.ready(next, crew));
        x.go(1);
        due.is("NOW", x.count(0), 34);
        due.yes("8 hours behind", x.ready(next, crew));
    }

    private static void walkWhileResting() {
        due.part("promise 27, who walks doesn't rest");
        RaftRivers x = Rivers.two();
        int crew = Rivers.ready(x, Rivers.raft(x, 1, 4));
        x.go(4);
        due.is("rests", x.crewed(crew, 3), 1);
        due.is("walk", x.walk(crew), 10);
        due.is("on foot", x.crewed(crew, 3), 0);
    }
}
