/** Promises 5 to 9: put, bind, join, part, unbind. */
public final class RaftsTest {
    private static final Due due = new Due();

    public static void main(String[] args) {
        put();
        putRefused();
        bind();
        bindRefused();
        join();
        joinRefused();
        part();
        partRefused();
        unbind();
        due.end();
    }

    private static void put() {
        due.part("promise 5");
        RaftRivers x = Rivers.two();
        for (int i = 0; i < 10; i++) {
            x.trunk(i + 1, 100 * (i % 8) + 1, 1);
        }
        for (int i = 0; i < 9; i++) {
            due.is("put", x.put(9 - i), i + 1);
        }
        due.none("it has 9", x.put(0));
        due.is("those in it still lie", x.told(9, 4), 0);
        due.is("there", x.told(9, 5), 1);
        due.is("bind()", x.bind(), 0);
        due.is("none behind bind()", x.put(0), 1);
    }

    private static void putRefused() {
        due.part("promise 5, refused");
        RaftRivers x = Rivers.two();
        x.trunk(1, 1, 1);
        x.trunk(2, 1, 0);
        x.trunk(3, 1, 1);
        due.none("put(-1)", x.put(-1));
        due.none("put(3)", x.put(3));
        due.is("put(0)", x.put(0), 1);
        due.none("it is in it", x.put(0));
        due.none("lies elsewhere", x.put(1));
        due.is("put(2)", x.put(2), 2);
        x.bind();
        due.none("in a raft", x.put(0));
        due.is("another station now", x.put(1), 1);
        x.bind();
        x.trunk(4, 1, 0);
        x.sell(3);
        due.none("sold", x.put(3));
        x.unbind(0);
        due.is("unbound, it lies again", x.put(2), 1);
    }

    private static void bind() {
        due.part("promise 6");
        RaftRivers x = Rivers.two();
        due.is("bind", Rivers.raft(x, 1, 4, 5, 9), 0);
        due.is("bind", Rivers.raft(x, 0, 1), 1);
        due.is("tied", x.raft(0, 0), 0);
        due.is("where the trunks lay", x.raft(0, 1), 1);
        due.is("where the trunks lay", x.raft(1, 1), 0);
        due.is("a row", x.raft(0, 2), 1);
        due.is("trunks", x.raft(0, 3), 3);
        due.is("width", x.raft(0, 4), 18);
        due.is("in a raft", x.told(2, 4), 1);
        due.is("that one", x.told(2, 6), 0);
        due.none("lies nowhere", x.told(2, 5));
        due.is("count(3)", x.count(3), 2);
    }

    private static void bindRefused() {
        due.part("promise 6, refused");
        RaftRivers x = Rivers.two();
        due.none("no trunk", x.bind());
        for (int i = 0; i < 60; i++) {
            due.is("bind", Rivers.raft(x, 1, 1), i);
        }
        x.trunk(1, 1, 1);
        x.trunk(2, 1, 1);
        due.is("put", x.put(60), 1);
        due.none("60 came", x.bind());
        due.is("the row is as it was", x.put(61), 2);
        due.none("60 came", x.bind());
        due.yes("one is no more", x.unbind(0));
        due.none("60 came all the same", x.bind());
        due.is("count(3)", x.count(3), 60);
        due.is("it lies", x.told(60, 4), 0);
    }

    private static void join() {
        due.part("promise 7");
        RaftRivers x = Rivers.two();
        Rivers.raft(x, 1, 4, 5);
        Rivers.raft(x, 1, 1, 1, 1);
        Rivers.raft(x, 1, 9, 9);
        due.yes("join(1, 0)", x.join(1, 0));
        due.is("rows", x.raft(1, 2), 2);
        due.is("trunks", x.raft(1, 3), 5);
        due.is("that of the widest row", x.raft(1, 4), 9);
        due.is("tied", x.raft(1, 0), 0);
        due.is("trunk's raft", x.told(0, 6), 1);
        due.is("trunk's raft", x.told(2, 6), 1);
        due.is("the other is no more", x.raft(0, 0), 3);
        due.none("nowhere", x.raft(0, 1));
        due.is("no rows", x.raft(0, 2), 0);
        due.is("no trunks", x.raft(0, 3), 0);
        due.is("no width", x.raft(0, 4), 0);
        due.yes("join(1, 2)", x.join(1, 2));
        due.is("rows", x.raft(1, 2), 3);
        due.is("width", x.raft(1, 4), 18);
        due.is("behind: the last row is the last one's", x.part(1, 1), 3);
        due.is("of 2", x.raft(3, 3), 2);
        due.is("of 18", x.raft(3, 4), 18);
        due.is("then the other's", x.part(1, 1), 4);
        due.is("9 wide", x.raft(4, 4), 9);
        due.is("count(3)", x.count(3), 5);
    }

    private static void joinRefused() {
        due.part("promise 7, refused");
        RaftRivers x = Rivers.two();
        int five = Rivers.longRaft(x, 1, 5);
        int three = Rivers.longRaft(x, 1, 3);
        int one = Rivers.raft(x, 1, 1);
        int away = Rivers.raft(x, 0, 1);
        due.no("both are one", x.join(one, one));
        due.no("elsewhere", x.join(one, away));
        due.no("elsewhere", x.join(away, one));
        due.no("no more", x.join(one, five + 1));
        due.no("no more", x.join(five + 1, one));
        due.no("none such", x.join(one, away + 1));
        due.no("none such", x.join(-1, one));
        due.no("none such", x.join(one, -1));
        int crew = Rivers.ready(x, one);
        due.no("ready", x.join(one, five));
        due.no("ready", x.join(five, one));
        due.yes("tie", x.tie(one));
        due.yes("8 rows", x.join(five, three));
        due.is("8 rows", x.raft(five, 2), 8);
        due.no("9 rows", x.join(five, one));
        due.no("9 rows", x.join(one, five));
        due.is("as it was", x.raft(five, 2), 8);
        due.is("as it was", x.raft(one, 2), 1);
        due.yes("ready again", x.ready(one, crew));
        x.go(1);
        due.is("under way", x.raft(one, 0), 2);
        due.no("under way to it", x.join(away, one));
        due.no("under way to it", x.join(one, away));
        x.go(3);
        due.yes("come", x.join(away, one));
    }

    private static void part() {
        due.part("promise 8");
        RaftRivers x = Rivers.two();
        Rivers.raft(x, 1, 1);
        Rivers.raft(x, 1, 2, 2);
        Rivers.raft(x, 1, 3, 3, 3);
        Rivers.raft(x, 1, 4);
        x.join(0, 1);
        x.join(0, 2);
        x.join(0, 3);
        due.is("part(0, 2)", x.part(0, 2), 4);
        due.is("rows left", x.raft(0, 2), 2);
        due.is("trunks left", x.raft(0, 3), 3);
        due.is("width left", x.raft(0, 4), 4);
        due.is("rows", x.raft(4, 2), 2);
        due.is("trunks", x.raft(4, 3), 4);
        due.is("width", x.raft(4, 4), 9);
        due.is("tied", x.raft(4, 0), 0);
        due.is("there", x.raft(4, 1), 1);
        due.is("trunk's raft", x.told(2, 6), 0);
        due.is("trunk's raft", x.told(3, 6), 4);
        due.is("trunk's raft", x.told(6, 6), 4);
        due.is("its last row", x.part(4, 1), 5);
        due.is("its first row stays", x.raft(4, 4), 9);
        due.is("its last row goes", x.raft(5, 4), 4);
        due.is("count(3)", x.count(3), 6);
    }

    private static void partRefused() {
        due.part("promise 8, refused");
        RaftRivers x = Rivers.two();
        int raft = Rivers.longRaft(x, 1, 3);
        due.none("n 0", x.part(raft, 0));
        due.none("n -1", x.part(raft, -1));
        due.none("n least", x.part(raft, Integer.MIN_VALUE));
        due.none("n all", x.part(raft, 3));
        due.none("n more", x.part(raft, 4));
        due.none("n most", x.part(raft, Integer.MAX_VALUE));
        due.none("no more", x.part(raft + 1, 1));
        due.none("none such", x.part(3, 1));
        due.none("none such", x.part(-1, 1));
        Rivers.ready(x, raft);
        due.none("ready", x.part(raft, 1));
        x.go(1);
        due.none("under way", x.part(raft, 1));
        x.go(3);
        due.is("come", x.part(raft, 1), 3);
        due.is("at the first station", x.raft(3, 1), 0);
        for (int i = 4; i < 60; i++) {
            Rivers.raft(x, 0, 1);
        }
        due.none("60 came", x.part(raft, 1));
        due.is("as it was", x.raft(raft, 2), 2);
    }

    private static void unbind() {
        due.part("promise 9");
        RaftRivers x = Rivers.two();
        int raft = Rivers.raft(x, 1, 4, 5);
        x.join(raft, Rivers.raft(x, 1, 6));
        due.no("none such", x.unbind(2));
        due.no("none such", x.unbind(-1));
        due.no("no more", x.unbind(1));
        int crew = Rivers.ready(x, raft);
        due.no("ready", x.unbind(raft));
        x.go(1);
        due.no("under way", x.unbind(raft));
        x.go(3);
        due.yes("come", x.unbind(raft));
        due.no("no more", x.unbind(raft));
        due.is("no more", x.raft(raft, 0), 3);
        due.none("nowhere", x.raft(raft, 1));
        due.is("no rows", x.raft(raft, 2), 0);
        for (int i = 0; i < 3; i++) {
            due.is("lies", x.told(i, 4), 0);
            due.is("there", x.told(i, 5), 0);
            due.none("in no raft", x.told(i, 6));
        }
        due.is("the crew stays", x.crewed(crew, 1), 0);
        due.is("put again", x.put(2), 1);
        due.is("bound again", x.bind(), 2);
    }
}
