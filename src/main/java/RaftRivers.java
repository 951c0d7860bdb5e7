/**
 * Rafts on rivers: trunks are bound into rafts, go down by weirs, and are sold in cities.
 * What each call answers is told by the numbered promises of the document (DOC.md).
 */
public final class RaftRivers {
    public static final int NONE = -1;

    private static final int LAST_HOUR = 20000;
    private static final int MOST_HOURS_A_CALL = 500;
    private static final int HOURS_A_DAY = 24;
    private static final int LAST_DAY = 1000;

    private static final int MOST_STATIONS = 12;
    private static final int MOST_TRUNKS = 120;
    private static final int MOST_RAFTS = 60;
    private static final int MOST_CREWS = 10;
    private static final int MOST_TOLLS = 30;
    private static final int MOST_PRICES = 100;

    private static final int MOST_MARK = 99999;
    private static final int OWNERS = 8;
    private static final int SORTS = 4;
    private static final int MOST_RIGHT = 9;
    private static final int FIRST_RIGHT = 5;
    private static final int MOST_TOLL = 100;
    private static final int MOST_PRICE = 1000;
    private static final int MOST_ADVANCE = 100000;
    private static final int NO_OWNER = -2147483648;

    private final Station[] stations = new Station[MOST_STATIONS];
    private int stationCount = 0;
    private final Trunk[] trunks = new Trunk[MOST_TRUNKS];
    private int trunkCount = 0;
    private final Raft[] rafts = new Raft[MOST_RAFTS];
    private int raftCount = 0;
    private final Crew[] crews = new Crew[MOST_CREWS];
    private int crewCount = 0;
    private Row nextRow = new Row();
    private final Tariff tolls = new Tariff(MOST_TOLLS);
    private final Tariff prices = new Tariff(MOST_PRICES);
    private final int[] rights = new int[OWNERS];
    private final int[] balances = new int[OWNERS];
    private final Plan plan = new Plan();
    private int now = 0;
    private int tollsTaken = 0;
    private int trunksSold = 0;
    private int trunksLost = 0;

    public RaftRivers() {
        for (int owner = 0; owner < OWNERS; owner++) {
            rights[owner] = FIRST_RIGHT;
        }
    }

    // ---- stations and trunks

    public int station(int below, int what, int pond, boolean city) {
        if (stationCount >= MOST_STATIONS) {
            return NONE;
        }
        Station made;
        if (stationCount == 0) {
            made = new Station(0, null, 0, 0, true);
        } else {
            Station lower = stationAt(below);
            if (lower == null || !Station.canBe(what, pond)) {
                return NONE;
            }
            made = new Station(stationCount, lower, what, pond, city);
        }
        stations[stationCount] = made;
        stationCount++;
        return made.number;
    }

    public int trunk(int mark, int what, int station) {
        Station place = stationAt(station);
        if (place == null || trunkCount >= MOST_TRUNKS || !Trunk.canBe(what)) {
            return NONE;
        }
        if (!within(mark, 1, MOST_MARK) || find(mark) != NONE) {
            return NONE;
        }
        Trunk made = new Trunk(trunkCount, mark, what, place);
        trunks[trunkCount] = made;
        trunkCount++;
        return made.number;
    }

    public int find(int mark) {
        for (int i = 0; i < trunkCount; i++) {
            if (trunks[i].mark == mark) {
                return i;
            }
        }
        return NONE;
    }

    // ---- rows and rafts

    public int put(int trunk) {
        Trunk log = trunkAt(trunk);
        if (log == null || log.station == null || !nextRow.takes(log)) {
            return NONE;
        }
        nextRow.append(log);
        return nextRow.size;
    }

    public int bind() {
        Trunk first = nextRow.first();
        if (first == null || raftCount >= MOST_RAFTS) {
            return NONE;
        }
        Raft made = newRaft(first.station);
        made.append(nextRow);
        nextRow = new Row();
        return made.number;
    }

    public boolean join(int raft, int other) {
        Raft ahead = tiedAt(raft);
        Raft behind = tiedAt(other);
        if (ahead == null || behind == null || ahead == behind) {
            return false;
        }
        if (ahead.station != behind.station || ahead.size + behind.size > Raft.MOST_ROWS) {
            return false;
        }
        behind.moveRows(0, ahead);
        behind.end();
        return true;
    }

    public int part(int raft, int n) {
        Raft whole = tiedAt(raft);
        if (whole == null || n < 1 || whole.size <= n || raftCount >= MOST_RAFTS) {
            return NONE;
        }
        Raft made = newRaft(whole.station);
        whole.moveRows(whole.size - n, made);
        return made.number;
    }

    public boolean unbind(int raft) {
        Raft bound = tiedAt(raft);
        if (bound == null) {
            return false;
        }
        bound.scatter();
        return true;
    }

    // ---- crews

    public int crew(int home) {
        Station place = stationAt(home);
        if (place == null || crewCount >= MOST_CREWS) {
            return NONE;
        }
        Crew made = new Crew(crewCount, place);
        crews[crewCount] = made;
        crewCount++;
        return made.number;
    }

    public boolean ready(int raft, int crew) {
        Raft tied = tiedAt(raft);
        Crew hands = crewAt(crew);
        if (tied == null || hands == null || tied.station == null || tied.station.below == null) {
            return false;
        }
        if (hands.station != tied.station || hands.rests(now)) {
            return false;
        }
        hands.board(tied);
        return true;
    }

    public boolean tie(int raft) {
        Raft waiting = raftAt(raft);
        if (waiting == null || waiting.state() != Raft.READY) {
            return false;
        }
        // The crew keeps its hour of coming: it had rested before, so it needn't again.
        waiting.landCrew();
        return true;
    }

    public int walk(int crew) {
        Crew hands = crewAt(crew);
        if (hands == null || hands.station == null || hands.station == hands.home) {
            return NONE;
        }
        int hours = hands.home.hoursDownTo(hands.station);
        if (hours == NONE) {
            return NONE;
        }
        hands.station = null;
        hands.comesHome = now + 2 * hours;
        return hands.comesHome;
    }

    // ---- hours

    public int go(int n) {
        if (!within(n, 0, MOST_HOURS_A_CALL)) {
            return NONE;
        }
        for (int i = 0; i < n && now < LAST_HOUR; i++) {
            passHour();
        }
        return now;
    }

    private void passHour() {
        for (int i = 0; i < crewCount; i++) {
            crews[i].comeBy(now);
        }
        for (int i = 1; i < stationCount; i++) {
            openWeir(stations[i]);
        }
        for (int i = 1; i < stationCount; i++) {
            stations[i].fillPond();
        }
        now++;
    }

    private void openWeir(Station weir) {
        if (weir.storms(now)) {
            return;
        }
        Raft next = nextAt(weir);
        if (next != null) {
            takeTolls(next);
            weir.pond -= next.need();
            next.goDown(weir, now);
        }
    }

    // A raft that is READY has a crew of its own, so the few crews lead to all such rafts.
    private Raft nextAt(Station weir) {
        Raft next = null;
        for (int i = 0; i < crewCount; i++) {
            Raft raft = crews[i].raft;
            if (raft != null && raft.fits(weir) && raft.need() <= weir.pond
                    && (next == null || goesAhead(raft, next))) {
                next = raft;
            }
        }
        return next;
    }

    private boolean goesAhead(Raft one, Raft other) {
        int byRight = rightOf(one) - rightOf(other);
        if (byRight != 0) {
            return byRight < 0;
        }
        int byTrunks = one.trunkCount() - other.trunkCount();
        if (byTrunks != 0) {
            return byTrunks > 0;
        }
        return one.number < other.number;
    }

    private int rightOf(Raft raft) {
        Trunk first = raft.firstTrunk();
        return first == null ? MOST_RIGHT : rights[first.owner];
    }

    private void takeTolls(Raft raft) {
        int sum = tolls.inForce(0, today());
        for (int r = 0; r < raft.size; r++) {
            Row row = raft.rows[r];
            for (int t = 0; t < row.size; t++) {
                balances[row.trunks[t].owner] -= sum;
                tollsTaken += sum;
            }
        }
    }

    public boolean storm(int station, int from, int to) {
        Station place = stationAt(station);
        if (place == null || from < now || to <= from) {
            return false;
        }
        place.stormFrom = from;
        place.stormTo = to;
        return true;
    }

    public int breaks(int raft, boolean odd) {
        Raft broken = raftAt(raft);
        if (broken == null || broken.state() != Raft.UNDER_WAY) {
            return NONE;
        }
        int lost = broken.loseTrunks(odd ? 1 : 0);
        trunksLost += lost;
        Crew hands = broken.landCrew();
        if (hands != null) {
            hands.came = now;
        }
        broken.scatter();
        return lost;
    }

    // ---- laws and money

    public boolean right(int owner, int right) {
        if (!isOwner(owner) || !within(right, 0, MOST_RIGHT)) {
            return false;
        }
        rights[owner] = right;
        return true;
    }

    public boolean toll(int day, int sum) {
        return within(day, 0, LAST_DAY) && within(sum, 0, MOST_TOLL) && tolls.tell(0, day, sum);
    }

    public boolean price(int city, int sort, int day, int price) {
        Station place = stationAt(city);
        if (place == null || !place.city || !within(sort, 0, SORTS - 1)) {
            return false;
        }
        return within(day, 0, LAST_DAY) && within(price, 0, MOST_PRICE)
                && prices.tell(marketOf(place, sort), day, price);
    }

    public int sell(int trunk) {
        Trunk log = trunkAt(trunk);
        if (log == null || log.station == null || !log.station.city || nextRow.has(log)) {
            return NONE;
        }
        int sum = prices.inForce(marketOf(log.station, log.sort), today()) * log.thickness;
        log.station = null;
        log.soldFor = sum;
        balances[log.owner] += sum;
        trunksSold++;
        return sum;
    }

    public int advance(int owner, int n) {
        if (!isOwner(owner) || !within(n, 1, MOST_ADVANCE)) {
            return NO_OWNER;
        }
        balances[owner] -= n;
        return balances[owner];
    }

    public int balance(int owner) {
        return isOwner(owner) ? balances[owner] : 0;
    }

    // ---- the best order at a weir

    public int best(int station, int k) {
        makePlan(station);
        return plan.raftIn(k);
    }

    public int passes(int station, int k) {
        makePlan(station);
        return plan.hourOf(k);
    }

    private void makePlan(int station) {
        plan.clear();
        Station weir = stationAt(station);
        if (weir == null || weir.below == null) {
            return;
        }
        for (int i = 0; i < raftCount; i++) {
            if (rafts[i].fits(weir) && rafts[i].need() <= weir.holds) {
                plan.admit(rafts[i]);
            }
        }
        plan.work(weir, now);
    }

    // ---- what is told

    public int told(int trunk, int what) {
        Trunk log = trunkAt(trunk);
        if (log == null) {
            return NONE;
        }
        switch (what) {
            case 0: return log.mark;
            case 1: return log.owner;
            case 2: return log.sort;
            case 3: return log.thickness;
            case 4: return log.state();
            case 5: return numberOf(log.station);
            case 6: return log.raft == null ? NONE : log.raft.number;
            case 7: return log.soldFor;
            default: return NONE;
        }
    }

    public int raft(int raft, int what) {
        Raft asked = raftAt(raft);
        if (asked == null) {
            return NONE;
        }
        switch (what) {
            case 0: return asked.state();
            case 1: return numberOf(asked.station);
            case 2: return asked.size;
            case 3: return asked.trunkCount();
            case 4: return asked.width();
            case 5: return asked.crew == null ? NONE : asked.crew.number;
            case 6: return asked.comes;
            default: return NONE;
        }
    }

    public int crewed(int crew, int what) {
        Crew hands = crewAt(crew);
        if (hands == null) {
            return NONE;
        }
        switch (what) {
            case 0: return hands.state();
            case 1: return numberOf(hands.station);
            case 2: return hands.comesHome;
            case 3: return hands.rests(now) ? 1 : 0;
            default: return NONE;
        }
    }

    public int count(int what) {
        switch (what) {
            case 0: return now;
            case 1: return stationCount;
            case 2: return trunkCount;
            case 3: return raftCount;
            case 4: return crewCount;
            case 5: return tollsTaken;
            case 6: return trunksSold;
            case 7: return trunksLost;
            default: return what < 100 ? NONE : pondOf(what - 100);
        }
    }

    // ---- small helpers

    private static boolean within(int value, int least, int most) {
        return value >= least && value <= most;
    }

    private static boolean isOwner(int owner) {
        return within(owner, 0, OWNERS - 1);
    }

    private static int numberOf(Station station) {
        return station == null ? NONE : station.number;
    }

    private static int marketOf(Station city, int sort) {
        return city.number * SORTS + sort;
    }

    private int today() {
        return now / HOURS_A_DAY;
    }

    private int pondOf(int number) {
        Station station = stationAt(number);
        return station == null ? NONE : station.pond;
    }

    private Station stationAt(int number) {
        return within(number, 0, stationCount - 1) ? stations[number] : null;
    }

    private Trunk trunkAt(int number) {
        return within(number, 0, trunkCount - 1) ? trunks[number] : null;
    }

    private Raft raftAt(int number) {
        return within(number, 0, raftCount - 1) ? rafts[number] : null;
    }

    private Raft tiedAt(int number) {
        Raft raft = raftAt(number);
        return raft != null && raft.state() == Raft.TIED ? raft : null;
    }

    private Crew crewAt(int number) {
        return within(number, 0, crewCount - 1) ? crews[number] : null;
    }

    // The caller has seen that fewer than MOST_RAFTS came.
    private Raft newRaft(Station station) {
        Raft made = new Raft(raftCount, station);
        rafts[raftCount] = made;
        raftCount++;
        return made;
    }

    /** A station with the weir by which rafts leave it; the first one has no weir. */
    private static final class Station {
        private static final int HOURS_UNIT = 100000;
        private static final int WIDE_UNIT = 1000;

        final int number;
        final Station below;
        final int hours;
        final int wide;
        final int inflow;
        final int holds;
        final boolean city;
        int pond;
        int stormFrom = 0;
        int stormTo = 0;

        Station(int number, Station below, int what, int holds, boolean city) {
            this.number = number;
            this.below = below;
            this.hours = what / HOURS_UNIT;
            this.wide = what % HOURS_UNIT / WIDE_UNIT;
            this.inflow = what % WIDE_UNIT;
            this.holds = holds;
            this.city = city;
            this.pond = holds;
        }

        static boolean canBe(int what, int pond) {
            return what >= 0
                    && within(what / HOURS_UNIT, 1, 20)
                    && within(what % HOURS_UNIT / WIDE_UNIT, 1, 60)
                    && within(what % WIDE_UNIT, 0, 50)
                    && within(pond, 0, 1000);
        }

        boolean storms(int hour) {
            return hour >= stormFrom && hour < stormTo;
        }

        void fillPond() {
            pond = Math.min(holds, pond + inflow);
        }

        /** NONE if the other one isn't this one or below it. */
        int hoursDownTo(Station other) {
            int sum = 0;
            for (Station at = this; at != null; at = at.below) {
                if (at == other) {
                    return sum;
                }
                sum += at.hours;
            }
            return NONE;
        }
    }

    /** A trunk LIES while it has a station, and is in a raft while it has one. */
    private static final class Trunk {
        final int number;
        final int mark;
        final int owner;
        final int sort;
        final int thickness;
        Station station;
        Raft raft = null;
        int soldFor = NONE;

        Trunk(int number, int mark, int what, Station station) {
            this.number = number;
            this.mark = mark;
            this.owner = what / 100;
            this.sort = what / 10 % 10;
            this.thickness = what % 10;
            this.station = station;
        }

        static boolean canBe(int what) {
            return what >= 0
                    && isOwner(what / 100)
                    && within(what / 10 % 10, 0, SORTS - 1)
                    && within(what % 10, 1, 9);
        }

        int state() {
            if (station != null) {
                return 0;
            }
            if (raft != null) {
                return 1;
            }
            return soldFor != NONE ? 2 : 3;
        }
    }

    /** Trunks side by side. */
    private static final class Row {
        private static final int MOST_IN_ROW = 9;

        final Trunk[] trunks = new Trunk[MOST_IN_ROW];
        int size = 0;
        int width = 0;

        Trunk first() {
            return size > 0 ? trunks[0] : null;
        }

        boolean has(Trunk trunk) {
            for (int i = 0; i < size; i++) {
                if (trunks[i].number == trunk.number) {
                    return true;
                }
            }
            return false;
        }

        boolean takes(Trunk trunk) {
            Trunk first = first();
            return size < MOST_IN_ROW && !has(trunk)
                    && (first == null || first.station == trunk.station);
        }

        void append(Trunk trunk) {
            if (size < MOST_IN_ROW) {
                trunks[size] = trunk;
                size++;
                width += trunk.thickness;
            }
        }

        void belongTo(Raft raft) {
            for (int i = 0; i < size; i++) {
                trunks[i].raft = raft;
                trunks[i].station = null;
            }
        }

        void lieAt(Station station) {
            for (int i = 0; i < size; i++) {
                // One that was lost just before has left the raft, and lies nowhere.
                if (trunks[i].raft != null) {
                    trunks[i].raft = null;
                    trunks[i].station = station;
                }
            }
        }

        int loseTrunks(int remainder) {
            int lost = 0;
            for (int i = 0; i < size; i++) {
                if (trunks[i].number % 2 == remainder) {
                    trunks[i].raft = null;
                    lost++;
                }
            }
            return lost;
        }
    }

    /** Rows one behind the other. It has rows until it is no more, and a crew unless it is tied. */
    private static final class Raft {
        static final int MOST_ROWS = 8;
        static final int TIED = 0;
        static final int READY = 1;
        static final int UNDER_WAY = 2;
        static final int NO_MORE = 3;
        private static final int NEED_A_ROW = 5;

        final int number;
        final Row[] rows = new Row[MOST_ROWS];
        int size = 0;
        Station station;
        Crew crew = null;
        int comes = NONE;

        Raft(int number, Station station) {
            this.number = number;
            this.station = station;
        }

        int state() {
            if (size == 0) {
                return NO_MORE;
            }
            if (crew == null) {
                return TIED;
            }
            return comes == NONE ? READY : UNDER_WAY;
        }

        int need() {
            return NEED_A_ROW * size;
        }

        int width() {
            int widest = 0;
            for (int i = 0; i < size; i++) {
                widest = Math.max(widest, rows[i].width);
            }
            return widest;
        }

        int trunkCount() {
            int sum = 0;
            for (int i = 0; i < size; i++) {
                sum += rows[i].size;
            }
            return sum;
        }

        Trunk firstTrunk() {
            return size > 0 && rows[0].size > 0 ? rows[0].trunks[0] : null;
        }

        /** Whether it is READY at a weir that is wide enough for it. */
        boolean fits(Station weir) {
            return station == weir && state() == READY && width() <= weir.wide;
        }

        void append(Row row) {
            if (size < MOST_ROWS) {
                rows[size] = row;
                size++;
                row.belongTo(this);
            }
        }

        void moveRows(int from, Raft to) {
            for (int i = Math.max(0, from); i < size; i++) {
                to.append(rows[i]);
            }
            size = Math.min(size, Math.max(0, from));
        }

        void end() {
            size = 0;
            station = null;
        }

        void goDown(Station weir, int hour) {
            comes = hour + weir.hours;
            station = weir.below;
        }

        /** Ties the raft: its crew, which is answered, is at the station. */
        Crew landCrew() {
            Crew landed = crew;
            if (landed != null) {
                landed.raft = null;
                landed.station = station;
            }
            crew = null;
            comes = NONE;
            return landed;
        }

        int loseTrunks(int remainder) {
            int lost = 0;
            for (int i = 0; i < size; i++) {
                lost += rows[i].loseTrunks(remainder);
            }
            return lost;
        }

        void scatter() {
            for (int i = 0; i < size; i++) {
                rows[i].lieAt(station);
            }
            end();
        }
    }

    /** A crew is at its station, or on its raft, or else on foot. */
    private static final class Crew {
        private static final int REST_HOURS = 8;

        final int number;
        final Station home;
        Station station;
        Raft raft = null;
        int comesHome = NONE;
        // As if it had come long ago: at first it can go at once.
        int came = -REST_HOURS;

        Crew(int number, Station home) {
            this.number = number;
            this.home = home;
            this.station = home;
        }

        int state() {
            if (station != null) {
                return 0;
            }
            return raft != null ? 1 : 2;
        }

        boolean rests(int hour) {
            return station != null && hour - came < REST_HOURS;
        }

        void board(Raft tied) {
            station = null;
            raft = tied;
            tied.crew = this;
        }

        void comeBy(int hour) {
            if (comesHome != NONE && comesHome <= hour) {
                station = home;
                comesHome = NONE;
                came = hour;
            } else if (raft != null && raft.state() == Raft.UNDER_WAY && raft.comes <= hour) {
                raft.landCrew();
                came = hour;
            }
        }
    }

    /** Sums told from a day on, for each of several keys. */
    private static final class Tariff {
        private final int[] keys;
        private final int[] days;
        private final int[] sums;
        private int size = 0;

        Tariff(int most) {
            int length = Math.max(0, most);
            keys = new int[length];
            days = new int[length];
            sums = new int[length];
        }

        boolean tell(int key, int day, int sum) {
            if (size >= keys.length) {
                return false;
            }
            keys[size] = key;
            days[size] = day;
            sums[size] = sum;
            size++;
            return true;
        }

        int inForce(int key, int day) {
            int sum = 0;
            int since = NONE;
            for (int i = 0; i < size; i++) {
                if (keys[i] == key && days[i] <= day && days[i] >= since) {
                    since = days[i];
                    sum = sums[i];
                }
            }
            return sum;
        }
    }

    /** The best order in which a few rafts pass a weir. */
    private static final class Plan {
        private static final int MOST_PLANNED = 5;
        private static final int MOST_ORDERS = 120;

        private final Raft[] rafts = new Raft[MOST_PLANNED];
        private final int[] order = new int[MOST_PLANNED];
        private final int[] hours = new int[MOST_PLANNED];
        private final int[] bestOrder = new int[MOST_PLANNED];
        private final int[] bestHours = new int[MOST_PLANNED];
        private int admitted = 0;
        private int planned = 0;
        private int leastSum = NONE;

        void clear() {
            admitted = 0;
            planned = 0;
            leastSum = NONE;
        }

        /** Rafts are admitted by their numbers; those above the most are only counted. */
        void admit(Raft raft) {
            if (admitted < MOST_PLANNED) {
                rafts[admitted] = raft;
                order[admitted] = admitted;
            }
            admitted++;
        }

        int raftIn(int place) {
            return within(place, 0, planned - 1) ? rafts[bestOrder[place]].number : NONE;
        }

        int hourOf(int place) {
            return within(place, 0, planned - 1) ? bestHours[place] : NONE;
        }

        /** Tries all orders by numbers, so that the first of like ones is kept. */
        void work(Station weir, int now) {
            if (admitted == 0 || admitted > MOST_PLANNED) {
                return;
            }
            boolean more = true;
            for (int i = 0; i < MOST_ORDERS && more; i++) {
                int sum = sumOfHours(weir, now);
                if (sum != NONE && (leastSum == NONE || sum < leastSum)) {
                    keep(sum);
                }
                more = nextOrder();
            }
        }

        private void keep(int sum) {
            leastSum = sum;
            planned = admitted;
            for (int i = 0; i < admitted; i++) {
                bestOrder[i] = order[i];
                bestHours[i] = hours[i];
            }
        }

        /** NONE if by this order one never could pass. */
        private int sumOfHours(Station weir, int now) {
            int sum = 0;
            int hour = now;
            int pond = weir.pond;
            for (int i = 0; i < admitted; i++) {
                int need = rafts[order[i]].need();
                int wait = hoursToFill(need - pond, weir.inflow);
                if (wait == NONE) {
                    return NONE;
                }
                hours[i] = hour + wait;
                sum += hours[i];
                hour = hours[i] + 1;
                int left = Math.min(weir.holds, pond + wait * weir.inflow) - need;
                pond = Math.min(weir.holds, left + weir.inflow);
            }
            return sum;
        }

        private static int hoursToFill(int missing, int inflow) {
            if (missing <= 0) {
                return 0;
            }
            return inflow <= 0 ? NONE : (missing + inflow - 1) / inflow;
        }

        /** The next order by numbers; false if this was the last one. */
        private boolean nextOrder() {
            int turn = admitted - 2;
            while (turn >= 0 && order[turn] > order[turn + 1]) {
                turn--;
            }
            if (turn < 0) {
                return false;
            }
            int next = admitted - 1;
            while (next > turn && order[next] < order[turn]) {
                next--;
            }
            swap(turn, next);
            for (int low = turn + 1, high = admitted - 1; low < high; low++, high--) {
                swap(low, high);
            }
            return true;
        }

        private void swap(int one, int other) {
            int kept = order[one];
            order[one] = order[other];
            order[other] = kept;
        }
    }
}
