/** Promises 17 to 22: right, toll, price, sell, advance, balance. */
public final class MoneyTest {
    private static final int NO_OWNER = Integer.MIN_VALUE;
    private static final Due due = new Due();

    public static void main(String[] args) {
        right();
        toll();
        tollRefused();
        price();
        priceRefused();
        sell();
        sellRefused();
        advance();
        balance();
        due.end();
    }

    private static void right() {
        due.part("promise 17");
        RaftRivers x = Rivers.two();
        due.yes("right(0, 0)", x.right(0, 0));
        due.yes("right(7, 9)", x.right(7, 9));
        due.no("owner 8", x.right(8, 1));
        due.no("owner -1", x.right(-1, 1));
        due.no("right 10", x.right(0, 10));
        due.no("right -1", x.right(0, -1));
        due.yes("right(1, 5)", x.right(1, 5));
        int one = Rivers.raftOf(x, 1, 1, 1);
        int zero = Rivers.raftOf(x, 1, 0, 1);
        int two = Rivers.raftOf(x, 1, 2, 1, 1);
        Rivers.ready(x, one);
        Rivers.ready(x, zero);
        Rivers.ready(x, two);
        x.go(1);
        due.is("right 0 is ahead, a refused one didn't change it", x.raft(zero, 0), 2);
        x.go(1);
        due.is("it is 5 at first: most trunks", x.raft(two, 0), 2);
    }

    /** A raft of one trunk of a new owner passes the weir: what it owes for it. */
    private static int owed(RaftRivers x, int owner) {
        int before = x.balance(owner);
        Rivers.ready(x, Rivers.raftOf(x, 1, owner, 1));
        x.go(1);
        return before - x.balance(owner);
    }

    private static void toll() {
        due.part("promise 18");
        RaftRivers x = Rivers.two();
        due.is("0 without", owed(x, 0), 0);
        due.yes("toll(2, 50)", x.toll(2, 50));
        due.is("not from day 2 on", owed(x, 0), 0);
        due.yes("toll(0, 100)", x.toll(0, 100));
        due.is("from day 0 on", owed(x, 0), 100);
        due.yes("of like ones", x.toll(0, 0));
        due.yes("the latest told", x.toll(0, 3));
        due.is("the latest told", owed(x, 1), 3);
        x.go(43);
        due.is("the last hour of day 1", owed(x, 2), 3);
        due.is("NOW", x.count(0), 48);
        due.is("the first hour of day 2", owed(x, 3), 50);
        due.yes("told late for an earlier day", x.toll(1, 77));
        due.is("the greatest day counts", owed(x, 4), 50);
        due.yes("toll(1000, 1)", x.toll(1000, 1));
        due.is("far from now", owed(x, 5), 50);
    }

    private static void tollRefused() {
        due.part("promise 18, refused");
        RaftRivers x = Rivers.two();
        due.no("day -1", x.toll(-1, 1));
        due.no("day 1001", x.toll(1001, 1));
        due.no("sum -1", x.toll(0, -1));
        due.no("sum 101", x.toll(0, 101));
        due.is("nothing in force", owed(x, 0), 0);
        for (int i = 0; i < 30; i++) {
            due.yes("toll", x.toll(0, i));
        }
        due.no("30 were told", x.toll(0, 99));
        due.is("the 30th", owed(x, 1), 29);
    }

    private static int sold(RaftRivers x, int station, int sort, int thickness) {
        int trunk = x.trunk(1 + x.count(2), Rivers.log(0, sort, thickness), station);
        return x.sell(trunk);
    }

    private static RaftRivers cities() {
        RaftRivers x = Rivers.two();
        x.station(0, Rivers.weir(2, 20, 0), 50, true);
        return x;
    }

    private static void price() {
        due.part("promise 19");
        RaftRivers x = cities();
        due.yes("price", x.price(0, 3, 0, 1000));
        due.yes("price", x.price(2, 3, 0, 10));
        due.yes("price", x.price(2, 0, 0, 0));
        due.is("of city 0", sold(x, 0, 3, 9), 9000);
        due.is("of city 2", sold(x, 2, 3, 2), 20);
        due.is("of another sort", sold(x, 2, 0, 2), 0);
        due.is("of none", sold(x, 2, 1, 2), 0);
        due.yes("like ones", x.price(2, 3, 0, 12));
        due.is("the latest told", sold(x, 2, 3, 2), 24);
        due.yes("from day 1 on", x.price(2, 3, 1, 20));
        due.is("day 0", sold(x, 2, 3, 2), 24);
        x.go(23);
        due.is("hour 23", sold(x, 2, 3, 2), 24);
        x.go(1);
        due.is("hour 24", sold(x, 2, 3, 2), 40);
        due.yes("told late for an earlier day", x.price(2, 3, 0, 1));
        due.is("the greatest day counts", sold(x, 2, 3, 2), 40);
        due.yes("price(2, 3, 1000, 5)", x.price(2, 3, 1000, 5));
        due.is("far from now", sold(x, 2, 3, 2), 40);
        due.is("of city 0 as it was", sold(x, 0, 3, 1), 1000);
    }

    private static void priceRefused() {
        due.part("promise 19, refused");
        RaftRivers x = cities();
        due.no("no city", x.price(1, 0, 0, 1));
        due.no("no station", x.price(3, 0, 0, 1));
        due.no("no station", x.price(-1, 0, 0, 1));
        due.no("sort 4", x.price(0, 4, 0, 1));
        due.no("sort -1", x.price(2, -1, 0, 1));
        due.no("day -1", x.price(0, 0, -1, 1));
        due.no("day 1001", x.price(0, 0, 1001, 1));
        due.no("price -1", x.price(0, 0, 0, -1));
        due.no("price 1001", x.price(0, 0, 0, 1001));
        due.is("nothing in force", sold(x, 0, 0, 1), 0);
        for (int i = 0; i < 100; i++) {
            due.yes("price", x.price(i % 2 * 2, i % 4, 0, i));
        }
        due.no("100 were told", x.price(0, 0, 0, 500));
        due.is("the last of its sort", sold(x, 0, 0, 1), 96);
    }

    private static void sell() {
        due.part("promise 20");
        RaftRivers x = cities();
        x.price(0, 1, 0, 7);
        x.trunk(5, 214, 0);
        due.is("7 times 4", x.sell(0), 28);
        due.is("sold", x.told(0, 4), 2);
        due.none("lies nowhere", x.told(0, 5));
        due.none("in no raft", x.told(0, 6));
        due.is("for", x.told(0, 7), 28);
        due.is("its owner's", x.balance(2), 28);
        due.is("count(6)", x.count(6), 1);
        x.trunk(6, 213, 2);
        due.is("without a price", x.sell(1), 0);
        due.is("sold for nothing is sold", x.told(1, 4), 2);
        due.is("for nothing", x.told(1, 7), 0);
        due.is("count(6)", x.count(6), 2);
    }

    private static void sellRefused() {
        due.part("promise 20, refused");
        RaftRivers x = cities();
        x.price(0, 0, 0, 7);
        x.trunk(1, 1, 0);
        x.trunk(2, 1, 1);
        x.trunk(3, 1, 0);
        due.none("none such", x.sell(3));
        due.none("none such", x.sell(-1));
        due.none("no city", x.sell(1));
        due.is("as it was", x.told(1, 4), 0);
        x.put(0);
        due.none("in the next row", x.sell(0));
        due.is("one that isn't", x.sell(2), 7);
        due.none("sold already", x.sell(2));
        x.bind();
        due.none("in a raft", x.sell(0));
        x.unbind(0);
        due.is("it lies again", x.sell(0), 7);
        due.is("count(6)", x.count(6), 2);
        due.is("balance", x.balance(0), 14);
    }

    private static void advance() {
        due.part("promise 21");
        RaftRivers x = Rivers.two();
        due.is("advance(3, 1)", x.advance(3, 1), -1);
        due.is("advance(3, 100000)", x.advance(3, 100000), -100001);
        due.is("advance(7, 5)", x.advance(7, 5), -5);
        due.is("n 0", x.advance(3, 0), NO_OWNER);
        due.is("n -1", x.advance(3, -1), NO_OWNER);
        due.is("n 100001", x.advance(3, 100001), NO_OWNER);
        due.is("owner 8", x.advance(8, 1), NO_OWNER);
        due.is("owner -1", x.advance(-1, 1), NO_OWNER);
        due.is("as it was", x.balance(3), -100001);
    }

    private static void balance() {
        due.part("promise 22");
        RaftRivers x = Rivers.two();
        x.price(0, 0, 0, 10);
        x.toll(0, 4);
        int raft = Rivers.raftOf(x, 1, 6, 3, 2);
        Rivers.ready(x, raft);
        x.advance(6, 20);
        x.go(4);
        x.unbind(raft);
        x.sell(0);
        due.is("30 - 8 - 20", x.balance(6), 2);
        due.is("another owner's", x.balance(5), 0);
        due.is("owner 8", x.balance(8), 0);
        due.is("owner -1", x.balance(-1), 0);
        due.is("owner least", x.balance(Integer.MIN_VALUE), 0);
    }
}
