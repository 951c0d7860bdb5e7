/** Edges of promises 17 to 22, and of what the terms say of RIGHTS, TOLLS, PRICES and BALANCES. */
public final class EdgeMoneyTest {
    private static final int NO_OWNER = Integer.MIN_VALUE;
    private static final Due due = new Due();
    private static final Edges edges = new Edges(due);

    public static void main(String[] args) {
        rightOfAnOwner();
        rightThatCanBe();
        tollOfADay();
        tollThatCanBe();
        thirtyTolls();
        tollInForce();
        tollOfTheLastDays();
        priceInACity();
        priceOfASortAndADay();
        priceOfEachSortInEachCity();
        priceThatCanBe();
        hundredPrices();
        priceInForce();
        priceOfTheLastDays();
        sellsOneThatCame();
        sellsWhatLiesInACity();
        sellsNothingOfTheNextRow();
        sellsForNothingAndForTheMost();
        advances();
        advancesThatCantBe();
        balances();
        balanceOfNobody();
        due.end();
    }

    /** A raft of one trunk of each owner is ready at station 1, of the last one first. */
    private static void eightOwners(RaftRivers x) {
        Rivers.river(x, Rivers.weir(3, 20, 50), 1000);
        for (int owner = 7; owner >= 0; owner--) {
            Rivers.ready(x, Rivers.raftOf(x, 1, owner, 1));
        }
        x.right(0, 4);
        x.right(7, 6);
    }

    private static int passedAfterRight(RaftRivers x, int owner, int right) {
        x.right(owner, right);
        x.go(1);
        return x.raft(7 - owner, 0);
    }

    private static void rightOfAnOwner() {
        edges.in("promise 17: false if there is no such OWNER", EdgeMoneyTest::eightOwners);
        edges.rangeAsk("owner", 0, 7, (x, n) -> x.right(n, 0));
        edges.is("of owner 0", 2, x -> passedAfterRight(x, 0, 0));
        edges.is("of owner 7", 2, x -> passedAfterRight(x, 7, 0));
    }

    private static void rightThatCanBe() {
        edges.in("promise 17: false if it can't be", EdgeMoneyTest::eightOwners);
        edges.rangeAsk("right of 0", 0, 9, (x, n) -> x.right(0, n));
        edges.rangeAsk("right of 7", 0, 9, (x, n) -> x.right(7, n));
        edges.is("3 is ahead of 4", 2, x -> passedAfterRight(x, 3, 3));
        edges.is("4 is not behind 4, by numbers", 2, x -> passedAfterRight(x, 3, 4));
        edges.is("5 is behind 4", 1, x -> passedAfterRight(x, 3, 5));
        edges.is("9 is the last one", 1, x -> {
            x.right(0, 9);
            x.go(7);
            return x.raft(7, 0);
        });
    }

    /** One raft is ready at station 1 in the first hour of this day. */
    private static void onDay(RaftRivers x, int day) {
        Rivers.river(x, Rivers.weir(3, 20, 50), 1000);
        Rivers.goTo(x, 24 * day);
        Rivers.ready(x, Rivers.raftOf(x, 1, 1, 1));
    }

    private static int owed(RaftRivers x) {
        x.go(1);
        return -x.balance(1);
    }

    private static void tollOfADay() {
        edges.in("promise 18: false if there is no such DAY (0 .. 1000)", x -> onDay(x, 0));
        edges.rangeAsk("day", 0, 1000, (x, n) -> x.toll(n, 7));
        edges.is("of day 0", 7, x -> x.toll(0, 7) ? owed(x) : Edges.NONE);
        edges.is("of day 1", 0, x -> x.toll(1, 7) ? owed(x) : Edges.NONE);
        edges.is("of day 1000", 0, x -> x.toll(1000, 7) ? owed(x) : Edges.NONE);
    }

    private static void tollThatCanBe() {
        edges.in("terms: a sum a TRUNK (0 .. 100); promise 18: false if it can't be", x -> onDay(x, 0));
        edges.rangeAsk("sum", 0, 100, (x, n) -> x.toll(0, n));
        edges.is("0", 0, x -> x.toll(0, 0) ? owed(x) : Edges.NONE);
        edges.is("100", 100, x -> x.toll(0, 100) ? owed(x) : Edges.NONE);
        edges.no("neither can be", x -> x.toll(1001, 101));
    }

    private static void tolls(RaftRivers x, int most) {
        onDay(x, 0);
        for (int i = 0; i < most; i++) {
            x.toll(i % 2, i);
        }
    }

    private static void thirtyTolls() {
        edges.in("promise 18: the 30th", x -> tolls(x, 29));
        edges.yes("the 30th", x -> x.toll(0, 50));
        edges.is("it is in force", 50, x -> x.toll(0, 50) ? owed(x) : Edges.NONE);
        edges.in("promise 18: false if 30 were told", x -> tolls(x, 30));
        edges.no("the 31st", x -> x.toll(0, 50));
        edges.no("the 31st, of day 1000", x -> x.toll(1000, 0));
        edges.is("what was told before is in force", 28, EdgeMoneyTest::owed);
        edges.in("promise 18: what was refused isn't told", x -> {
            tolls(x, 29);
            x.toll(-1, 5);
            x.toll(1001, 5);
            x.toll(0, 101);
            x.toll(0, -1);
        });
        edges.yes("the 30th", x -> x.toll(0, 50));
    }

    private static void tollInForce() {
        edges.in("terms: TOLLS: 0 without", x -> onDay(x, 3));
        edges.is("none told", 0, EdgeMoneyTest::owed);
        edges.is("a later day only", 0, x -> x.toll(4, 9) ? owed(x) : Edges.NONE);
        edges.is("that day", 9, x -> x.toll(3, 9) ? owed(x) : Edges.NONE);
        edges.is("an earlier day", 9, x -> x.toll(2, 9) ? owed(x) : Edges.NONE);
        edges.is("the first day", 9, x -> x.toll(0, 9) ? owed(x) : Edges.NONE);
        edges.in("terms: the one with the greatest DAY that isn't above it", x -> {
            onDay(x, 3);
            x.toll(2, 8);
            x.toll(4, 9);
            x.toll(1, 7);
        });
        edges.is("not the one told last, nor one above it", 8, EdgeMoneyTest::owed);
        edges.is("of like ones the latest told", 5, x -> x.toll(2, 5) ? owed(x) : Edges.NONE);
        edges.is("of like ones the latest told, though 0", 0, x -> x.toll(2, 0) ? owed(x) : Edges.NONE);
        edges.is("a smaller day doesn't count", 8, x -> x.toll(0, 5) ? owed(x) : Edges.NONE);
        edges.is("a greater one does", 5, x -> x.toll(3, 5) ? owed(x) : Edges.NONE);
    }

    /** What is owed in this hour, with 3 from day 0 on and so much from this day on. */
    private static int owedIn(int hour, int day, int sum) {
        RaftRivers x = new RaftRivers();
        Rivers.river(x, Rivers.weir(3, 20, 50), 1000);
        x.toll(0, 3);
        x.toll(day, sum);
        Rivers.goTo(x, hour);
        Rivers.ready(x, Rivers.raftOf(x, 1, 1, 1));
        return owed(x);
    }

    private static void tollOfTheLastDays() {
        due.part("terms: the DAY is NOW by 24 (cut)");
        due.is("hour 0", owedIn(0, 1, 9), 3);
        due.is("hour 23", owedIn(23, 1, 9), 3);
        due.is("hour 24", owedIn(24, 1, 9), 9);
        due.is("hour 47", owedIn(47, 2, 9), 3);
        due.is("hour 48", owedIn(48, 2, 9), 9);
        due.is("hour 19991", owedIn(19991, 833, 9), 3);
        due.is("hour 19992", owedIn(19992, 833, 9), 9);
        due.is("hour 19999", owedIn(19999, 833, 9), 9);
        due.is("no hour is of day 834", owedIn(19999, 834, 9), 3);
        due.is("nor of day 1000", owedIn(19999, 1000, 9), 3);
    }

    /** Cities 0 and 2, each with a trunk of each sort, as thick as the sort and one more. */
    private static void cities(RaftRivers x) {
        Rivers.chain(x, 4, Rivers.weir(3, 20, 2), 50);
        for (int sort = 0; sort < 4; sort++) {
            x.trunk(10 + sort, Rivers.log(1, sort, sort + 1), 0);
            x.trunk(20 + sort, Rivers.log(2, sort, sort + 1), 2);
        }
    }

    private static void priceInACity() {
        edges.in("promise 19: false if it is no CITY", EdgeMoneyTest::cities);
        edges.yes("the first", x -> x.price(0, 0, 0, 5));
        edges.yes("another", x -> x.price(2, 0, 0, 5));
        edges.no("none", x -> x.price(1, 0, 0, 5));
        edges.no("the last is none", x -> x.price(3, 0, 0, 5));
        edges.noSuch("city", 4, (x, n) -> x.price(n, 0, 0, 5));
    }

    private static void priceOfASortAndADay() {
        edges.in("promise 19: false if there is no such SORT or DAY", EdgeMoneyTest::cities);
        edges.rangeAsk("sort", 0, 3, (x, n) -> x.price(0, n, 0, 5));
        edges.rangeAsk("sort, elsewhere", 0, 3, (x, n) -> x.price(2, n, 0, 5));
        edges.rangeAsk("day", 0, 1000, (x, n) -> x.price(0, 0, n, 5));
        edges.is("sort 0", 5, x -> x.price(0, 0, 0, 5) ? x.sell(0) : Edges.NONE);
        edges.is("sort 3", 20, x -> x.price(0, 3, 0, 5) ? x.sell(6) : Edges.NONE);
        edges.is("of a sort only", 0, x -> x.price(0, 3, 0, 5) ? x.sell(4) : Edges.NONE);
        edges.is("of a city only", 0, x -> x.price(0, 3, 0, 5) ? x.sell(7) : Edges.NONE);
        edges.is("the other city", 20, x -> x.price(2, 3, 0, 5) ? x.sell(7) : Edges.NONE);
        edges.is("not in the first one", 0, x -> x.price(2, 0, 0, 5) ? x.sell(0) : Edges.NONE);
    }

    private static void priceOfEachSortInEachCity() {
        due.part("terms: PRICES of a SORT in a CITY: 12 CITIES and 4 SORTS");
        RaftRivers x = new RaftRivers();
        for (int city = 0; city < 12; city++) {
            x.station(0, Rivers.weir(1, 1, 0), 1, true);
            for (int sort = 0; sort < 4; sort++) {
                x.trunk(1 + 4 * city + sort, Rivers.log(0, sort, 1), city);
                due.yes("price", x.price(city, sort, 0, 100 + 4 * city + sort));
            }
        }
        for (int trunk = 0; trunk < 48; trunk++) {
            due.is("sort " + trunk % 4 + " in city " + trunk / 4, x.sell(trunk), 100 + trunk);
        }
    }

    private static void priceThatCanBe() {
        edges.in("promise 19: A PRICE (0 .. 1000): false if it can't be", EdgeMoneyTest::cities);
        edges.rangeAsk("price", 0, 1000, (x, n) -> x.price(0, 0, 0, n));
        edges.is("0", 0, x -> x.price(0, 3, 0, 0) ? x.sell(6) : Edges.NONE);
        edges.is("1000", 4000, x -> x.price(0, 3, 0, 1000) ? x.sell(6) : Edges.NONE);
    }

    private static void prices(RaftRivers x, int most) {
        cities(x);
        for (int i = 0; i < most; i++) {
            x.price(i % 2 * 2, i / 2 % 4, i % 3, i);
        }
    }

    private static void hundredPrices() {
        edges.in("promise 19: the 100th", x -> prices(x, 99));
        edges.yes("the 100th", x -> x.price(2, 0, 0, 500));
        edges.is("it is in force", 500, x -> x.price(2, 0, 0, 500) ? x.sell(1) : Edges.NONE);
        edges.in("promise 19: false if 100 were told", x -> prices(x, 100));
        edges.no("the 101st", x -> x.price(0, 0, 0, 500));
        edges.no("the 101st, elsewhere", x -> x.price(2, 3, 0, 500));
        edges.no("the 101st, of day 1000", x -> x.price(0, 1, 1000, 0));
        edges.in("promise 19: what was refused isn't told", x -> {
            prices(x, 99);
            x.price(1, 0, 0, 5);
            x.price(0, 4, 0, 5);
            x.price(0, 0, 1001, 5);
            x.price(0, 0, 0, 1001);
        });
        edges.yes("the 100th", x -> x.price(2, 0, 0, 500));
        edges.in("promise 19: TOLLS aren't PRICES", x -> {
            prices(x, 100);
            for (int i = 0; i < 29; i++) {
                x.toll(0, i);
            }
        });
        edges.yes("the 30th toll", x -> x.toll(0, 50));
    }

    private static void priceInForce() {
        edges.in("terms: PRICES are told from a DAY on, likewise", x -> {
            cities(x);
            x.go(72);
        });
        edges.is("0 without", 0, x -> x.sell(6));
        edges.is("a later day only", 0, x -> x.price(0, 3, 4, 9) ? x.sell(6) : Edges.NONE);
        edges.is("that day", 36, x -> x.price(0, 3, 3, 9) ? x.sell(6) : Edges.NONE);
        edges.is("the first day", 36, x -> x.price(0, 3, 0, 9) ? x.sell(6) : Edges.NONE);
        edges.in("terms: the greatest DAY that isn't above it, likewise", x -> {
            cities(x);
            x.go(72);
            x.price(0, 3, 2, 8);
            x.price(0, 3, 4, 9);
            x.price(0, 3, 1, 7);
            x.price(0, 2, 3, 100);
            x.price(2, 3, 3, 200);
        });
        edges.is("not the one told last, nor one above it", 32, x -> x.sell(6));
        edges.is("of like ones the latest told", 20, x -> x.price(0, 3, 2, 5) ? x.sell(6) : Edges.NONE);
        edges.is("of like ones the latest told, though 0", 0, x -> x.price(0, 3, 2, 0) ? x.sell(6) : Edges.NONE);
        edges.is("a smaller day doesn't count", 32, x -> x.price(0, 3, 0, 5) ? x.sell(6) : Edges.NONE);
        edges.is("a greater one does", 20, x -> x.price(0, 3, 3, 5) ? x.sell(6) : Edges.NONE);
    }

    /** What a trunk is sold for in this hour, with 3 from day 0 on and so much from this day on. */
    private static int soldIn(int hour, int day, int price) {
        RaftRivers x = new RaftRivers();
        cities(x);
        x.price(0, 0, 0, 3);
        x.price(0, 0, day, price);
        Rivers.goTo(x, hour);
        return x.sell(0);
    }

    private static void priceOfTheLastDays() {
        due.part("terms: its PRICE there of the DAY, which is NOW by 24 (cut)");
        due.is("hour 0", soldIn(0, 1, 9), 3);
        due.is("hour 23", soldIn(23, 1, 9), 3);
        due.is("hour 24", soldIn(24, 1, 9), 9);
        due.is("hour 19991", soldIn(19991, 833, 9), 3);
        due.is("hour 19992", soldIn(19992, 833, 9), 9);
        due.is("hour 20000", soldIn(20000, 833, 9), 9);
        due.is("hour 20000 isn't of day 834", soldIn(20000, 834, 9), 3);
        due.is("nor of day 1000", soldIn(20000, 1000, 9), 3);
    }

    private static void sellsOneThatCame() {
        edges.in("promise 20: NONE if it doesn't LIE: none such", EdgeMoneyTest::cities);
        edges.is("the first", 0, x -> x.sell(0));
        edges.is("the last", 0, x -> x.sell(7));
        edges.noneSuch("trunk", 8, (x, n) -> x.sell(n));
    }

    private static void sellsWhatLiesInACity() {
        edges.in("promise 20: NONE if it doesn't LIE in a CITY", x -> {
            Rivers.states(x);
            x.trunk(1, 1, 1);
            x.trunk(2, 1, 0);
            x.trunk(3, 1, 0);
            x.sell(9);
        });
        edges.none("it lies elsewhere", x -> x.sell(8));
        edges.none("in a raft that is tied in a city", x -> x.sell(6));
        edges.none("in a raft that is tied elsewhere", x -> x.sell(7));
        edges.none("in a raft that is ready", x -> x.sell(2));
        edges.none("in a raft that is under way to a city", x -> x.sell(5));
        edges.none("sold", x -> x.sell(9));
        edges.is("it lies in a city", 0, x -> x.sell(10));
        edges.is("unbound in a city", 0, x -> x.unbind(Rivers.LOW) ? x.sell(6) : Edges.NONE);
        edges.is("broken on the way to a city", 0,
            x -> x.breaks(Rivers.UNDER_WAY, false) == 0 ? x.sell(5) : Edges.NONE);
        edges.in("promise 20: NONE if it is LOST", x -> {
            Rivers.states(x);
            x.breaks(Rivers.UNDER_WAY, true);
        });
        edges.none("lost", x -> x.sell(5));
    }

    private static void sellsNothingOfTheNextRow() {
        edges.in("promise 20: NONE if it is in the next ROW", x -> {
            cities(x);
            x.put(2);
            x.put(0);
            x.price(0, 0, 0, 5);
            x.price(0, 2, 0, 5);
        });
        edges.none("the first of it", x -> x.sell(2));
        edges.none("the last of it", x -> x.sell(0));
        edges.is("one beside it", 15, x -> x.sell(4));
        edges.is("bound and unbound", 5, x -> x.unbind(x.bind()) ? x.sell(0) : Edges.NONE);
    }

    private static void sellsForNothingAndForTheMost() {
        edges.in("promise 20: for how much: 0", x -> {
            cities(x);
            x.sell(0);
        });
        edges.same("sold", 2, x -> x.told(0, 4));
        edges.same("for 0", 0, x -> x.told(0, 7));
        edges.same("lies nowhere", Edges.NONE, x -> x.told(0, 5));
        edges.same("count(6)", 1, x -> x.count(6));
        edges.none("again", x -> x.sell(0));
        edges.in("promise 20: for how much: the most", x -> {
            Rivers.river(x, Rivers.weir(3, 20, 2), 50);
            x.price(0, 3, 0, 1000);
            x.trunk(1, 739, 0);
        });
        edges.is("9000", 9000, x -> x.sell(0));
        edges.is("it is its owner's", 9000, x -> x.sell(0) == 9000 ? x.balance(7) : Edges.NONE);
        edges.is("told", 9000, x -> x.sell(0) == 9000 ? x.told(0, 7) : Edges.NONE);
        edges.in("promise 20: the price of the day it was sold stays", x -> {
            Rivers.river(x, Rivers.weir(3, 20, 2), 50);
            x.price(0, 3, 0, 10);
            x.trunk(1, 739, 0);
            x.sell(0);
            x.price(0, 3, 0, 20);
        });
        edges.same("told", 90, x -> x.told(0, 7));
        edges.same("balance", 90, x -> x.balance(7));
    }

    private static void advances() {
        edges.in("promise 21: n is 1 .. 100000", Rivers::states);
        edges.is("1", -1, x -> x.advance(0, 1));
        edges.is("100000", -100000, x -> x.advance(0, 100000));
        edges.is("owner 7", -5, x -> x.advance(7, 5));
        edges.is("of that one only", 0, x -> x.advance(7, 5) == -5 ? x.balance(6) : Edges.NONE);
        edges.is("400 times", -40000000, x -> {
            for (int i = 1; i < 400; i++) {
                x.advance(3, 100000);
            }
            return x.advance(3, 100000);
        });
    }

    private static void advancesThatCantBe() {
        edges.in("promise 21: -2147483648 if there is no such OWNER, or n isn't 1 .. 100000", x -> {
            Rivers.states(x);
            x.advance(0, 10);
            x.advance(7, 20);
        });
        for (int owner : new int[] {Edges.LEAST, -1, 8, Edges.MOST}) {
            edges.same("owner " + owner, NO_OWNER, x -> x.advance(owner, 1));
            edges.same("owner " + owner + ", n 0", NO_OWNER, x -> x.advance(owner, 0));
        }
        for (int n : new int[] {Edges.LEAST, -100000, -1, 0, 100001, Edges.MOST}) {
            edges.same("n " + n, NO_OWNER, x -> x.advance(0, n));
            edges.same("n " + n + ", owner 7", NO_OWNER, x -> x.advance(7, n));
        }
    }

    private static void balances() {
        edges.in("terms: BALANCE: what was got for TRUNKS, less TOLLS, less ADVANCES", x -> {
            Rivers.river(x, Rivers.weir(3, 20, 2), 50);
            x.toll(0, 4);
            x.price(0, 0, 0, 10);
            Rivers.raftOf(x, 1, 0, 3, 2);
            x.join(0, Rivers.raftOf(x, 1, 7, 9));
            Rivers.ready(x, 0);
            x.advance(7, 50);
            x.go(4);
            x.unbind(0);
        });
        edges.same("less tolls", -8, x -> x.balance(0));
        edges.same("nothing of another owner", 0, x -> x.balance(1));
        edges.is("what was got", 22, x -> x.sell(0) == 30 ? x.balance(0) : Edges.NONE);
        edges.is("advance answers it", 21, x -> x.sell(0) == 30 ? x.advance(0, 1) : Edges.NONE);
        edges.same("less advances", -54, x -> x.balance(7));
        edges.same("count(5)", 12, x -> x.count(5));
    }

    private static void balanceOfNobody() {
        edges.in("promise 22: 0 if there is no such OWNER", x -> {
            Rivers.states(x);
            for (int owner = 0; owner < 8; owner++) {
                x.advance(owner, 10 + owner);
            }
        });
        edges.same("owner 0", -10, x -> x.balance(0));
        edges.same("owner 7", -17, x -> x.balance(7));
        for (int owner : new int[] {Edges.LEAST, -1, 8, Edges.MOST}) {
            edges.same("owner " + owner, 0, x -> x.balance(owner));
        }
    }
}
