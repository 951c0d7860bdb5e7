/** Promises 14 to 16: go (what happens in an hour), storm, breaks. */
public final class HoursTest {
    private static final int NONE = RaftRivers.NONE;
    private static final Due due = new Due();

    public static void main(String[] args) {
        go();
        lastHour();
        oneRaftPasses();
        ponds();
        tooWideOrTooDry();
        whoPassesFirst();
        rightOfTheFirstTrunk();
        oneAnHourAtEachWeir();
        tollsTaken();
        storm();
        stormRefused();
        breaks();
        breaksEven();
        breaksRefused();
        due.end();
    }

    private static void go() {
        due.part("promise 14");
        RaftRivers x = Rivers.two();
        due.is("go(0)", x.go(0), 0);
        due.is("go(500)", x.go(500), 500);
        due.none("go(501)", x.go(501));
        due.none("go(-1)", x.go(-1));
        due.none("go least", x.go(Integer.MIN_VALUE));
        due.none("go most", x.go(Integer.MAX_VALUE));
        due.is("count(0)", x.count(0), 500);
        due.is("go(1)", x.go(1), 501);
    }

    private static void lastHour() {
        due.part("promise 14, up to 20000");
        RaftRivers x = Rivers.two();
        for (int i = 1; i <= 39; i++) {
            x.go(500);
        }
        due.is("go(499)", x.go(499), 19999);
        int raft = Rivers.raft(x, 1, 1);
        int late = Rivers.raft(x, 1, 1);
        Rivers.ready(x, raft);
        Rivers.ready(x, late);
        due.is("go(500)", x.go(500), 20000);
        due.is("the hour 19999 passed", x.raft(raft, 0), 2);
        due.is("comes", x.raft(raft, 6), 20002);
        due.is("go(1)", x.go(1), 20000);
        due.is("no hour more", x.raft(late, 0), 1);
        due.none("go(501)", x.go(501));
    }

    private static void oneRaftPasses() {
        due.part("an hour: a raft passes and comes");
        RaftRivers x = Rivers.two();
        int raft = Rivers.raft(x, 1, 4, 5);
        int crew = Rivers.ready(x, raft);
        x.go(1);
        due.is("under way", x.raft(raft, 0), 2);
        due.is("to the one below", x.raft(raft, 1), 0);
        due.is("its crew", x.raft(raft, 5), crew);
        due.is("comes", x.raft(raft, 6), 3);
        due.is("a trunk is in it", x.told(0, 4), 1);
        due.is("the crew, too", x.crewed(crew, 0), 1);
        x.go(2);
        due.is("hour 3 hasn't passed", x.raft(raft, 0), 2);
        x.go(1);
        due.is("tied", x.raft(raft, 0), 0);
        due.is("there", x.raft(raft, 1), 0);
        due.none("no crew", x.raft(raft, 5));
        due.none("come", x.raft(raft, 6));
        due.is("the crew is at it", x.crewed(crew, 0), 0);
        due.is("the crew is at it", x.crewed(crew, 1), 0);
    }

    private static void ponds() {
        due.part("an hour: ponds");
        RaftRivers x = Rivers.two();
        Rivers.ready(x, Rivers.longRaft(x, 1, 4));
        x.go(1);
        due.is("less 20, and 2 come", x.count(101), 32);
        x.go(8);
        due.is("2 each hour", x.count(101), 48);
        x.go(1);
        due.is("full", x.count(101), 50);
        x.go(1);
        due.is("not above what it holds", x.count(101), 50);
        RaftRivers y = new RaftRivers();
        y.station(0, 0, 0, false);
        y.station(0, Rivers.weir(1, 5, 50), 7, false);
        Rivers.ready(y, Rivers.raft(y, 1, 1));
        y.go(1);
        due.is("much comes", y.count(101), 7);
    }

    private static void tooWideOrTooDry() {
        due.part("an hour: width and water");
        RaftRivers x = new RaftRivers();
        x.station(0, 0, 0, false);
        x.station(0, Rivers.weir(1, 9, 1), 9, false);
        int wide = Rivers.raft(x, 1, 5, 5);
        int fits = Rivers.raft(x, 1, 5, 4);
        int thin = Rivers.longRaft(x, 1, 2);
        Rivers.ready(x, wide);
        Rivers.ready(x, thin);
        x.go(3);
        due.is("10 in 9", x.raft(wide, 0), 1);
        due.is("a need of 10 of 9", x.raft(thin, 0), 1);
        Rivers.ready(x, fits);
        x.go(1);
        due.is("9 in 9", x.raft(fits, 0), 2);
        due.is("pond", x.count(101), 5);
        int next = Rivers.raft(x, 1, 1);
        int last = Rivers.raft(x, 1, 1);
        Rivers.ready(x, next);
        x.go(1);
        due.is("a need of 5 of 5", x.raft(next, 0), 2);
        due.is("pond", x.count(101), 1);
        Rivers.ready(x, last);
        x.go(4);
        due.is("pond", x.count(101), 5);
        due.is("4 isn't enough", x.raft(last, 0), 1);
        x.go(1);
        due.is("5 is", x.raft(last, 0), 2);
        due.is("from hour 9", x.raft(last, 6), 10);
    }

    private static void whoPassesFirst() {
        due.part("an hour: least right, most trunks, least number");
        RaftRivers x = Rivers.two();
        int a = Rivers.raftOf(x, 1, 1, 1, 1);
        int b = Rivers.raftOf(x, 1, 2, 1, 1, 1);
        int c = Rivers.raftOf(x, 1, 3, 1, 1, 1);
        int d = Rivers.raftOf(x, 1, 4, 1);
        int e = Rivers.raftOf(x, 1, 5, 1, 1, 1, 1);
        // Crews come in another order than rafts: only the rafts' numbers count.
        for (int raft : new int[] {e, c, a, d, b}) {
            Rivers.ready(x, raft);
        }
        x.right(4, 4);
        x.right(5, 6);
        int[] order = {d, b, c, a, e};
        for (int i = 0; i < order.length; i++) {
            x.go(1);
            due.is("place " + i, x.raft(order[i], 0), 2);
            due.is("comes", x.raft(order[i], 6), i + 3);
            if (i + 1 < order.length) {
                due.is("not the next one", x.raft(order[i + 1], 0), 1);
            }
        }
    }

    private static void rightOfTheFirstTrunk() {
        due.part("an hour: the right is that of the first trunk");
        RaftRivers x = Rivers.two();
        int one = Rivers.raftOf(x, 1, 1, 1);
        int two = Rivers.raftOf(x, 1, 2, 1);
        int three = Rivers.raftOf(x, 1, 3, 1);
        int four = Rivers.raftOf(x, 1, 0, 1);
        x.right(2, 0);
        x.right(3, 9);
        x.join(one, two);
        x.join(four, three);
        // Right 5 of owner 1 against 5 of owner 0; as many trunks: the least number.
        Rivers.ready(x, four);
        Rivers.ready(x, one);
        x.go(1);
        due.is("least number", x.raft(one, 0), 2);
        due.is("the other waits", x.raft(four, 0), 1);
        RaftRivers y = Rivers.two();
        int a = Rivers.raftOf(y, 1, 1, 1, 1);
        int b = Rivers.raftOf(y, 1, 2, 1);
        int c = Rivers.raftOf(y, 1, 3, 1);
        y.join(a, b);
        y.right(2, 1);
        int parted = y.part(a, 1);
        Rivers.ready(y, a);
        Rivers.ready(y, c);
        Rivers.ready(y, parted);
        y.go(1);
        due.is("a parted raft has its own first trunk", y.raft(parted, 0), 2);
        y.right(3, 4);
        y.go(1);
        due.is("a right told late counts", y.raft(c, 0), 2);
        due.is("the last one waits", y.raft(a, 0), 1);
    }

    private static void oneAnHourAtEachWeir() {
        due.part("an hour: one at each weir");
        RaftRivers x = Rivers.two();
        x.station(1, Rivers.weir(1, 9, 0), 5, false);
        int low = Rivers.raft(x, 1, 1);
        int high = Rivers.raft(x, 2, 1);
        int second = Rivers.raft(x, 2, 1);
        Rivers.ready(x, low);
        Rivers.ready(x, high);
        Rivers.ready(x, second);
        x.go(1);
        due.is("low", x.raft(low, 6), 3);
        due.is("high", x.raft(high, 6), 1);
        due.is("its own pond", x.count(101), 47);
        due.is("its own pond", x.count(102), 0);
        x.go(1);
        due.is("come", x.raft(high, 0), 0);
        due.is("come to 1", x.raft(high, 1), 1);
        due.is("no water", x.raft(second, 0), 1);
        due.yes("another crew", x.ready(high, x.crew(1)));
        x.go(1);
        due.is("on it goes", x.raft(high, 6), 5);
        due.is("to 0", x.raft(high, 1), 0);
    }

    private static void tollsTaken() {
        due.part("an hour: tolls");
        RaftRivers x = Rivers.two();
        x.toll(0, 7);
        x.toll(1, 10);
        int raft = Rivers.raftOf(x, 1, 3, 1, 1);
        int other = Rivers.raftOf(x, 1, 4, 1);
        int third = Rivers.raftOf(x, 1, 5, 1);
        x.join(raft, other);
        due.is("nothing yet", x.balance(3), 0);
        Rivers.ready(x, raft);
        due.is("nothing yet", x.balance(3), 0);
        x.go(1);
        due.is("two trunks", x.balance(3), -14);
        due.is("one trunk", x.balance(4), -7);
        due.is("count(5)", x.count(5), 21);
        x.go(22);
        due.is("NOW", x.count(0), 23);
        Rivers.ready(x, third);
        x.tie(third);
        x.go(1);
        Rivers.ready(x, third);
        x.go(1);
        due.is("the hour 24 is of day 1", x.balance(5), -10);
        due.is("count(5)", x.count(5), 31);
        due.is("paid once", x.balance(3), -14);
    }

    private static void storm() {
        due.part("promise 15");
        RaftRivers x = Rivers.two();
        x.station(0, Rivers.weir(3, 20, 0), 50, false);
        int raft = Rivers.raft(x, 1, 1);
        int other = Rivers.raft(x, 2, 1);
        Rivers.ready(x, raft);
        Rivers.ready(x, other);
        due.yes("storm(1, 0, 2)", x.storm(1, 0, 2));
        x.go(1);
        due.is("it stops", x.raft(raft, 0), 1);
        due.is("no other weir", x.raft(other, 0), 2);
        x.go(1);
        due.is("hour 1, too", x.raft(raft, 0), 1);
        x.go(1);
        due.is("not hour 2", x.raft(raft, 0), 2);
        int third = Rivers.raft(x, 1, 1);
        Rivers.ready(x, third);
        due.yes("storm", x.storm(1, 3, 100));
        due.yes("the one told last", x.storm(1, 5, 6));
        x.go(1);
        due.is("hour 3 is free", x.raft(third, 6), 6);
        int fourth = Rivers.raft(x, 1, 1);
        x.go(1);
        Rivers.ready(x, fourth);
        x.go(1);
        due.is("hour 5 isn't", x.raft(fourth, 0), 1);
        due.is("who is under way goes on", x.raft(third, 0), 2);
        x.go(1);
        due.is("hour 6 is", x.raft(fourth, 6), 9);
        due.is("it came in a storm or not", x.raft(third, 0), 0);
        due.is("water comes in a storm", x.count(101), 45);
    }

    private static void stormRefused() {
        due.part("promise 15, refused");
        RaftRivers x = Rivers.two();
        x.go(10);
        due.no("none such", x.storm(2, 20, 30));
        due.no("none such", x.storm(-1, 20, 30));
        due.no("from below NOW", x.storm(1, 9, 30));
        due.no("to is from", x.storm(1, 20, 20));
        due.no("to below from", x.storm(1, 20, 19));
        due.yes("from NOW", x.storm(1, 10, 11));
        int raft = Rivers.raft(x, 1, 1);
        Rivers.ready(x, raft);
        due.no("a refused one", x.storm(1, 12, 12));
        x.go(1);
        due.is("doesn't end the one before", x.raft(raft, 0), 1);
        x.go(1);
        due.is("that has ended", x.raft(raft, 0), 2);
        due.yes("the first station is one, too", x.storm(0, 20, 30));
    }

    private static void breaks() {
        due.part("promise 16");
        RaftRivers x = Rivers.two();
        int raft = Rivers.raft(x, 1, 1, 2, 3);
        x.join(raft, Rivers.raft(x, 1, 4, 5));
        int crew = Rivers.ready(x, raft);
        x.go(2);
        due.is("those with odd numbers", x.breaks(raft, true), 2);
        for (int i = 0; i < 5; i++) {
            due.is("state", x.told(i, 4), i % 2 == 1 ? 3 : 0);
            due.is("station", x.told(i, 5), i % 2 == 1 ? NONE : 0);
            due.none("raft", x.told(i, 6));
            due.none("sold for", x.told(i, 7));
        }
        due.is("count(7)", x.count(7), 2);
        due.is("no more", x.raft(raft, 0), 3);
        due.none("nowhere", x.raft(raft, 1));
        due.is("no rows", x.raft(raft, 2), 0);
        due.none("no crew", x.raft(raft, 5));
        due.none("doesn't come", x.raft(raft, 6));
        due.is("the crew is there", x.crewed(crew, 0), 0);
        due.is("the crew is there", x.crewed(crew, 1), 0);
        due.is("and rests", x.crewed(crew, 3), 1);
        x.go(7);
        due.is("7 hours", x.crewed(crew, 3), 1);
        x.go(1);
        due.is("8 hours", x.crewed(crew, 3), 0);
        due.is("what lies can be bound", x.put(2), 1);
        due.none("what is lost can't", x.put(1));
        due.none("nor sold", x.sell(1));
        due.is("sold", x.sell(4), 0);
    }

    private static void breaksEven() {
        due.part("promise 16, even");
        RaftRivers x = Rivers.two();
        int raft = Rivers.raft(x, 1, 1, 2, 3);
        int odd = Rivers.raft(x, 1, 1);
        Rivers.ready(x, raft);
        x.go(1);
        due.is("those with even numbers", x.breaks(raft, false), 2);
        due.is("lost", x.told(0, 4), 3);
        due.is("lies", x.told(1, 4), 0);
        due.is("lost", x.told(2, 4), 3);
        Rivers.ready(x, odd);
        x.go(1);
        due.is("none is lost", x.breaks(odd, false), 0);
        due.is("lies", x.told(3, 5), 0);
        due.is("count(7)", x.count(7), 2);
    }

    private static void breaksRefused() {
        due.part("promise 16, refused");
        RaftRivers x = Rivers.two();
        int raft = Rivers.raft(x, 1, 1, 2);
        due.none("tied", x.breaks(raft, true));
        due.none("none such", x.breaks(1, true));
        due.none("none such", x.breaks(-1, true));
        Rivers.ready(x, raft);
        due.none("ready", x.breaks(raft, true));
        x.go(3);
        due.is("hour 3 hasn't passed", x.breaks(raft, true), 1);
        due.none("no more", x.breaks(raft, true));
        due.is("count(7)", x.count(7), 1);
        int next = Rivers.raft(x, 1, 1);
        Rivers.ready(x, next);
        x.go(4);
        due.none("come", x.breaks(next, false));
        due.is("as it was", x.raft(next, 0), 0);
    }
}
