/** Edges of promises 5 to 9, and of what the terms say of ROWS and RAFTS. */
public final class EdgeRaftsTest {
    private static final Due due = new Due();
    private static final Edges edges = new Edges(due);

    public static void main(String[] args) {
        putsOneThatCame();
        putsWhatLies();
        putsNothingTwice();
        putsFromOneStation();
        nineInARow();
        noneAtFirstAndBehindBind();
        bindsNoEmptyRow();
        bindsTheLeastAndTheGreatest();
        sixtyRafts();
        sixtyRaftsThoughSomeAreNoMore();
        joinsWhatCame();
        joinsWhatIsTied();
        joinsAtOneStation();
        joinsTwo();
        eightRows();
        joinedRows();
        partsWhatIsTied();
        partsSoMany();
        partsOneOfEight();
        partsUpToSixty();
        partedRows();
        unbindsWhatIsTied();
        unbindsAll();
        due.end();
    }

    /** Three trunks at station 1 and one at station 0. */
    private static void logs(RaftRivers x) {
        Rivers.river(x, Rivers.weir(3, 20, 2), 50);
        x.trunk(1, 114, 1);
        x.trunk(2, 225, 1);
        x.trunk(3, 336, 1);
        x.trunk(4, 431, 0);
    }

    private static void putsOneThatCame() {
        edges.in("promise 5: NONE if there is none such", EdgeRaftsTest::logs);
        edges.range("trunk", 0, 3, 1, (x, n) -> x.put(n));
    }

    private static void putsWhatLies() {
        edges.in("promise 5: NONE if there is none such that LIES", x -> {
            Rivers.states(x);
            x.trunk(1, 1, 0);
            x.sell(8);
        });
        edges.none("in a raft that is tied", x -> x.put(0));
        edges.none("in a raft that is ready", x -> x.put(2));
        edges.none("in a raft that is under way", x -> x.put(5));
        edges.none("sold", x -> x.put(8));
        edges.in("promise 5: NONE if there is none such that LIES", x -> {
            Rivers.states(x);
            x.breaks(Rivers.UNDER_WAY, true);
        });
        edges.none("lost", x -> x.put(5));
        edges.in("promise 5: one that LIES again", x -> {
            Rivers.states(x);
            x.breaks(Rivers.UNDER_WAY, false);
            x.unbind(Rivers.TIED);
        });
        edges.is("where its raft was going", 1, x -> x.put(5));
        edges.is("where its raft was", 1, x -> x.put(7));
    }

    private static void putsNothingTwice() {
        edges.in("promise 5: NONE if it is in it", x -> {
            logs(x);
            x.put(1);
            x.put(0);
        });
        edges.none("the first", x -> x.put(1));
        edges.none("the last", x -> x.put(0));
        edges.is("another", 3, x -> x.put(2));
    }

    private static void putsFromOneStation() {
        edges.in("promise 5: NONE if it LIES elsewhere than those in it", x -> {
            logs(x);
            x.put(0);
        });
        edges.none("below", x -> x.put(3));
        edges.in("promise 5: NONE if it LIES elsewhere than those in it", x -> {
            logs(x);
            x.put(3);
        });
        edges.none("above", x -> x.put(0));
        edges.in("promise 5: elsewhere, behind bind()", x -> {
            logs(x);
            x.put(0);
            x.bind();
        });
        edges.is("below", 1, x -> x.put(3));
        edges.is("there", 1, x -> x.put(1));
    }

    private static void rowOf(RaftRivers x, int trunks) {
        Rivers.river(x, Rivers.weir(3, 20, 2), 50);
        for (int i = 0; i < trunks; i++) {
            x.put(x.trunk(10 + i, 119, 1));
        }
        x.trunk(5, 111, 1);
    }

    private static void nineInARow() {
        for (int trunks = 0; trunks < 9; trunks++) {
            int many = trunks;
            edges.in("promise 5: how many it has", x -> rowOf(x, many));
            edges.is("behind " + trunks, trunks + 1, x -> x.put(many));
        }
        edges.in("promise 5: NONE if it has 9", x -> rowOf(x, 9));
        edges.none("the 10th", x -> x.put(9));
        edges.none("the 9th again", x -> x.put(8));
    }

    private static void noneAtFirstAndBehindBind() {
        edges.in("promise 5: none at first, and behind each bind()", EdgeRaftsTest::logs);
        edges.is("at first", 1, x -> x.put(0));
        edges.in("promise 5: none at first, and behind each bind()", x -> {
            rowOf(x, 9);
            x.bind();
        });
        edges.is("behind bind()", 1, x -> x.put(9));
        edges.in("promise 5: a bind() that is refused keeps the ROW", x -> {
            sixty(x, 60);
            x.put(60);
            x.bind();
        });
        edges.is("behind bind()", 2, x -> x.put(61));
        edges.none("again", x -> x.put(60));
    }

    private static void bindsNoEmptyRow() {
        edges.in("promise 6: NONE if it has no TRUNK", EdgeRaftsTest::logs);
        edges.none("at first", x -> x.bind());
        edges.in("promise 6: NONE if it has no TRUNK", x -> {
            logs(x);
            x.put(0);
            x.bind();
        });
        edges.none("behind bind()", x -> x.bind());
        edges.in("promise 6: NONE if it has no TRUNK", x -> {
            logs(x);
            x.put(4);
            x.put(-1);
        });
        edges.none("behind puts that were refused", x -> x.bind());
    }

    private static int boundTells(RaftRivers x, int what) {
        return x.raft(x.bind(), what);
    }

    private static void bindsTheLeastAndTheGreatest() {
        edges.in("terms: its WIDTH is the sum of what is THICK: one TRUNK", x -> {
            Rivers.river(x, Rivers.weir(3, 20, 2), 50);
            x.put(x.trunk(1, 1, 1));
        });
        edges.is("bind()", 0, x -> x.bind());
        int[] least = {0, 1, 1, 1, 1, Edges.NONE, Edges.NONE, Edges.NONE};
        for (int what = 0; what < least.length; what++) {
            int asked = what;
            edges.is("raft(0, " + what + ")", least[what], x -> boundTells(x, asked));
        }
        edges.in("terms: its WIDTH is the sum of what is THICK: nine of 9", x -> rowOf(x, 9));
        edges.is("bind()", 0, x -> x.bind());
        edges.is("trunks", 9, x -> boundTells(x, 3));
        edges.is("width", 81, x -> boundTells(x, 4));
    }

    /** So many rafts that are tied at station 1, of one trunk each, and two trunks more. */
    private static void sixty(RaftRivers x, int rafts) {
        Rivers.river(x, Rivers.weir(3, 20, 2), 50);
        for (int i = 0; i < rafts; i++) {
            x.put(x.trunk(10 + i, 111, 1));
            x.bind();
        }
        x.trunk(1, 111, 1);
        x.trunk(2, 111, 1);
    }

    private static void sixtyRafts() {
        edges.in("terms: RAFTS have numbers as they come, at most 60", x -> {
            sixty(x, 59);
            x.put(59);
        });
        edges.is("the 60th", 59, x -> x.bind());
        edges.is("it is told of", 1, x -> x.raft(x.bind(), 1));
        edges.in("promise 6: NONE if 60 came", x -> {
            sixty(x, 60);
            x.put(60);
        });
        edges.none("the 61st", x -> x.bind());
        edges.same("count(3)", 60, x -> x.count(3));
        edges.same("the trunk lies", 0, x -> x.told(60, 4));
        edges.same("the 60th is tied", 0, x -> x.raft(59, 0));
        edges.noneSuch("raft", 60, (x, n) -> x.raft(n, 0));
        edges.noneSuch("part, raft", 60, (x, n) -> x.part(n, 1));
        edges.noneSuch("breaks, raft", 60, (x, n) -> x.breaks(n, true));
        edges.noSuch("unbind, raft", 60, (x, n) -> x.unbind(n));
        edges.noSuch("join, raft", 60, (x, n) -> x.join(0, n));
        edges.noSuch("tie, raft", 60, (x, n) -> x.tie(n));
        edges.yes("the 60th is joined", x -> x.join(0, 59));
        edges.yes("the 60th is unbound", x -> x.unbind(59));
    }

    private static void sixtyRaftsThoughSomeAreNoMore() {
        edges.in("promise 6: NONE if 60 came, though some are no more", x -> {
            sixty(x, 60);
            x.join(0, 1);
            x.unbind(2);
            x.put(60);
        });
        edges.none("the 61st", x -> x.bind());
        edges.none("by part", x -> x.part(0, 1));
        edges.in("promise 6: NONE if 60 came, the last one by part", x -> {
            sixty(x, 59);
            x.join(0, 1);
            x.part(0, 1);
            x.put(59);
        });
        edges.none("the 61st", x -> x.bind());
    }

    private static void joinsWhatCame() {
        edges.in("promise 7: false if there is none such", Rivers::states);
        edges.noSuch("first", 6, (x, n) -> x.join(n, Rivers.TIED));
        edges.noSuch("second", 6, (x, n) -> x.join(Rivers.TIED, n));
        edges.noSuch("both", 6, (x, n) -> x.join(n, n));
        edges.yes("both came", x -> x.join(Rivers.TWO_ROWS, Rivers.TIED));
        edges.yes("both came", x -> x.join(Rivers.TIED, Rivers.TWO_ROWS));
    }

    private static void joinsWhatIsTied() {
        edges.in("promise 7: false if there is none such TIED", Rivers::states);
        for (int raft : new int[] {Rivers.NO_MORE, Rivers.READY, Rivers.UNDER_WAY}) {
            edges.no("first " + raft, x -> x.join(raft, Rivers.TIED));
            edges.no("second " + raft, x -> x.join(Rivers.TIED, raft));
            edges.no("second, below, " + raft, x -> x.join(Rivers.LOW, raft));
            edges.no("first, below, " + raft, x -> x.join(raft, Rivers.LOW));
        }
        edges.in("promise 7: TIED again", x -> {
            Rivers.states(x);
            x.tie(Rivers.READY);
            x.go(3);
        });
        edges.yes("it was ready", x -> x.join(Rivers.READY, Rivers.TIED));
        edges.yes("it has come", x -> x.join(Rivers.LOW, Rivers.UNDER_WAY));
    }

    private static void joinsAtOneStation() {
        edges.in("promise 7: false if they aren't at one STATION", Rivers::states);
        edges.no("below and above", x -> x.join(Rivers.LOW, Rivers.TIED));
        edges.no("above and below", x -> x.join(Rivers.TIED, Rivers.LOW));
    }

    private static void joinsTwo() {
        edges.in("promise 7: false if both are one", Rivers::states);
        edges.no("of one row", x -> x.join(Rivers.TIED, Rivers.TIED));
        edges.no("of two", x -> x.join(Rivers.TWO_ROWS, Rivers.TWO_ROWS));
        edges.no("at the first station", x -> x.join(Rivers.LOW, Rivers.LOW));
    }

    private static void twoRafts(RaftRivers x, int rows, int others) {
        Rivers.river(x, Rivers.weir(3, 20, 2), 50);
        Rivers.longRaft(x, 1, rows);
        Rivers.longRaft(x, 1, others);
    }

    private static void eightRows() {
        for (int rows = 1; rows <= 7; rows++) {
            int first = rows;
            edges.in("promise 7: 8 are taken, and more are not", x -> twoRafts(x, first, 8 - first));
            edges.yes(rows + " and " + (8 - rows), x -> x.join(0, first));
            edges.is(rows + " and " + (8 - rows), 8, x -> x.join(0, first) ? x.raft(0, 2) : 0);
        }
        for (int rows = 1; rows <= 8; rows++) {
            int first = rows;
            edges.in("promise 7: false if there would be more than 8", x -> twoRafts(x, first, 9 - first));
            edges.no(rows + " and " + (9 - rows), x -> x.join(0, first));
        }
        edges.in("promise 7: false if there would be more than 8", x -> twoRafts(x, 8, 8));
        edges.no("8 and 8", x -> x.join(0, 8));
    }

    private static void joinedRows() {
        edges.in("terms: JOINED: all ROWS are one's", x -> {
            Rivers.states(x);
            x.join(Rivers.TIED, Rivers.TWO_ROWS);
        });
        int[] joined = {0, 1, 3, 3, 6, Edges.NONE, Edges.NONE};
        int[] noMore = {3, Edges.NONE, 0, 0, 0, Edges.NONE, Edges.NONE};
        for (int what = 0; what < joined.length; what++) {
            int asked = what;
            edges.same("joined, " + what, joined[what], x -> x.raft(Rivers.TIED, asked));
            edges.same("no more, " + what, noMore[what], x -> x.raft(Rivers.TWO_ROWS, asked));
        }
        edges.no("again", x -> x.join(Rivers.TIED, Rivers.TWO_ROWS));
        edges.no("the other way round", x -> x.join(Rivers.TWO_ROWS, Rivers.TIED));
        edges.same("the trunk of the second", Rivers.TIED, x -> x.told(0, 6));
        edges.is("the second's first row is behind the first's", Rivers.TIED, x -> {
            x.part(Rivers.TIED, 1);
            return x.told(0, 6);
        });
        edges.is("the second's last row is the last", 6, x -> {
            x.part(Rivers.TIED, 1);
            return x.told(1, 6);
        });
        edges.is("the first's row is the first", 6, x -> {
            x.part(Rivers.TIED, 2);
            return x.raft(Rivers.TIED, 4);
        });
    }

    private static void partsWhatIsTied() {
        edges.in("promise 8: NONE if it isn't TIED", Rivers::states);
        edges.is("tied", 6, x -> x.part(Rivers.TWO_ROWS, 1));
        edges.noneSuch("raft", 6, (x, n) -> x.part(n, 1));
        edges.none("no more", x -> x.part(Rivers.NO_MORE, 1));
        edges.in("promise 8: NONE if it isn't TIED", x -> {
            Rivers.river(x, Rivers.weir(3, 20, 2), 50);
            Rivers.readyLong(x, 1, 2);
        });
        edges.none("ready", x -> x.part(0, 1));
        edges.in("promise 8: NONE if it isn't TIED", x -> {
            Rivers.river(x, Rivers.weir(3, 20, 2), 50);
            Rivers.readyLong(x, 1, 2);
            x.go(1);
        });
        edges.none("under way", x -> x.part(0, 1));
        edges.in("promise 8: TIED where it has come", x -> {
            Rivers.river(x, Rivers.weir(3, 20, 2), 50);
            Rivers.readyLong(x, 1, 2);
            x.go(4);
        });
        edges.is("come", 2, x -> x.part(0, 1));
    }

    private static void partsSoMany() {
        edges.in("promise 8: NONE if it has not more than n, or n is below 1", x -> {
            Rivers.river(x, Rivers.weir(3, 20, 2), 50);
            Rivers.longRaft(x, 1, 5);
        });
        edges.range("n, of 5", 1, 4, 5, (x, n) -> x.part(0, n));
        edges.none("n 6", x -> x.part(0, 6));
        edges.none("n -1", x -> x.part(0, -1));
        edges.in("promise 8: NONE if it has not more than n, or n is below 1", Rivers::states);
        edges.range("n, of 2", 1, 1, 6, (x, n) -> x.part(Rivers.TWO_ROWS, n));
        edges.none("one row can't be parted", x -> x.part(Rivers.TIED, 1));
        edges.none("one row can't be parted", x -> x.part(Rivers.TIED, 0));
        edges.none("nor 2 of it", x -> x.part(Rivers.TIED, 2));
    }

    private static void partsOneOfEight() {
        edges.in("promise 8: of a RAFT with all its ROWS", x -> {
            Rivers.river(x, Rivers.weir(3, 20, 2), 50);
            Rivers.longRaft(x, 1, 8);
        });
        edges.range("n, of 8", 1, 7, 8, (x, n) -> x.part(0, n));
        edges.is("7 rows are parted", 7, x -> x.raft(x.part(0, 7), 2));
        edges.is("1 row is left", 1, x -> {
            x.part(0, 7);
            return x.raft(0, 2);
        });
        edges.is("joined again, 8", 8, x -> x.join(0, x.part(0, 7)) ? x.raft(0, 2) : 0);
    }

    private static void partsUpToSixty() {
        edges.in("promise 8: the 60th by part", x -> {
            sixty(x, 59);
            x.join(0, 1);
        });
        edges.is("the 60th", 59, x -> x.part(0, 1));
        edges.in("promise 8: NONE if 60 came", x -> {
            sixty(x, 60);
            x.join(0, 1);
        });
        edges.none("the 61st", x -> x.part(0, 1));
    }

    private static void partedRows() {
        edges.in("terms: PARTED: the last ROWS of a RAFT that is TIED are a new RAFT", x -> {
            Rivers.river(x, Rivers.weir(3, 20, 2), 50);
            int first = Rivers.raft(x, 1, 2);
            x.join(first, Rivers.raft(x, 1, 3, 4));
            x.join(first, Rivers.raft(x, 1, 9));
            x.part(first, 2);
        });
        int[] left = {0, 1, 1, 1, 2, Edges.NONE, Edges.NONE};
        int[] made = {0, 1, 2, 3, 9, Edges.NONE, Edges.NONE};
        for (int what = 0; what < left.length; what++) {
            int asked = what;
            edges.same("left, " + what, left[what], x -> x.raft(0, asked));
            edges.same("new, " + what, made[what], x -> x.raft(3, asked));
        }
        edges.same("of the first row", 0, x -> x.told(0, 6));
        edges.same("of the second", 3, x -> x.told(1, 6));
        edges.same("of the last", 3, x -> x.told(3, 6));
        edges.is("in their order: the last row is the last", 9, x -> x.raft(x.part(3, 1), 4));
    }

    private static void unbindsWhatIsTied() {
        edges.in("promise 9: false if it isn't TIED", Rivers::states);
        edges.yes("tied", x -> x.unbind(Rivers.TIED));
        edges.yes("tied at the first station", x -> x.unbind(Rivers.LOW));
        edges.noSuch("raft", 6, (x, n) -> x.unbind(n));
        edges.no("no more", x -> x.unbind(Rivers.NO_MORE));
        edges.no("ready", x -> x.unbind(Rivers.READY));
        edges.no("under way", x -> x.unbind(Rivers.UNDER_WAY));
        edges.in("promise 9: false if it isn't TIED any more", x -> {
            Rivers.states(x);
            x.unbind(Rivers.TIED);
        });
        edges.no("again", x -> x.unbind(Rivers.TIED));
    }

    /** One raft of 8 rows with 9 trunks each. */
    private static void greatest(RaftRivers x) {
        Rivers.river(x, Rivers.weir(3, 20, 2), 50);
        for (int row = 0; row < 8; row++) {
            for (int i = 0; i < 9; i++) {
                x.put(x.trunk(1 + 9 * row + i, 119, 1));
            }
            x.bind();
            x.join(0, row);
        }
    }

    private static void unbindsAll() {
        edges.in("terms: at most 8 ROWS, of 9 TRUNKS each", EdgeRaftsTest::greatest);
        edges.same("rows", 8, x -> x.raft(0, 2));
        edges.same("trunks", 72, x -> x.raft(0, 3));
        edges.same("width", 81, x -> x.raft(0, 4));
        edges.in("terms: UNBOUND: its TRUNKS LIE there", x -> {
            greatest(x);
            x.unbind(0);
        });
        for (int trunk = 0; trunk < 72; trunk++) {
            int asked = trunk;
            edges.is("it lies", 0, x -> x.told(asked, 4));
            edges.is("there", 1, x -> x.told(asked, 5));
            edges.is("in no raft", Edges.NONE, x -> x.told(asked, 6));
        }
        edges.same("no more", 3, x -> x.raft(0, 0));
        edges.same("trunks", 0, x -> x.raft(0, 3));
    }
}
