import java.util.ArrayList;
import java.util.HashMap;
import java.util.List;
import java.util.Map;

/** The document's words once more, as slowly and plainly as can be: what the program is held against. */
final class Model {
    private static final int NONE = -1;

    private static final class S {
        int below = NONE;
        int hours;
        int wide;
        int comes;
        int holds;
        boolean city;
        int pond;
        int stormFrom = 1;
        int stormTo = 0;
    }

    private static final class T {
        int mark;
        int owner;
        int sort;
        int thick;
        String state = "LIES";
        int station;
        int sum = NONE;
    }

    private static final class R {
        String state = "TIED";
        int station;
        List<List<Integer>> rows = new ArrayList<>();
        int crew = NONE;
        int hour = NONE;
    }

    private static final class C {
        int home;
        String state = "AT";
        int station;
        int hour = NONE;
        int cameAt = NONE;
    }

    private final List<S> stations = new ArrayList<>();
    private final List<T> trunks = new ArrayList<>();
    private final List<R> rafts = new ArrayList<>();
    private final List<C> crews = new ArrayList<>();
    private List<Integer> row = new ArrayList<>();
    private final List<int[]> tolls = new ArrayList<>();
    private final List<int[]> prices = new ArrayList<>();
    private final Map<Integer, Integer> rights = new HashMap<>();
    private final int[] got = new int[8];
    private final int[] owed = new int[8];
    private final int[] advanced = new int[8];
    private int now = 0;

    private static boolean in(int x, int from, int to) {
        return from <= x && x <= to;
    }

    private static <E> E at(List<E> all, int i) {
        return i >= 0 && i < all.size() ? all.get(i) : null;
    }

    int answer(int[] q) {
        int a = q[1];
        int b = q[2];
        int c = q[3];
        int d = q[4];
        switch (q[0]) {
            case 0: return station(a, b, c, d == 1);
            case 1: return trunk(a, b, c);
            case 2: return find(a);
            case 3: return put(a);
            case 4: return bind();
            case 5: return join(a, b);
            case 6: return part(a, b);
            case 7: return unbind(a);
            case 8: return crew(a);
            case 9: return ready(a, b);
            case 10: return tie(a);
            case 11: return walk(a);
            case 12: return go(a);
            case 13: return storm(a, b, c);
            case 14: return breaks(a, b == 1);
            case 15: return right(a, b);
            case 16: return toll(a, b);
            case 17: return price(a, b, c, d);
            case 18: return sell(a);
            case 19: return advance(a, b);
            case 20: return in(a, 0, 7) ? balance(a) : 0;
            case 21: return plan(a, b, 0);
            case 22: return plan(a, b, 1);
            case 23: return told(a, b);
            case 24: return raft(a, b);
            case 25: return crewed(a, b);
            default: return count(a);
        }
    }

    private int station(int below, int what, int pond, boolean city) {
        if (stations.size() == 12) {
            return NONE;
        }
        S s = new S();
        s.city = true;
        if (!stations.isEmpty()) {
            boolean found = false;
            for (int hours = 1; hours <= 20; hours++) {
                for (int wide = 1; wide <= 60; wide++) {
                    for (int comes = 0; comes <= 50; comes++) {
                        if (hours * 100000 + wide * 1000 + comes == what) {
                            found = true;
                            s.hours = hours;
                            s.wide = wide;
                            s.comes = comes;
                        }
                    }
                }
            }
            if (!found || !in(pond, 0, 1000) || at(stations, below) == null) {
                return NONE;
            }
            s.below = below;
            s.holds = pond;
            s.pond = pond;
            s.city = city;
        }
        stations.add(s);
        return stations.size() - 1;
    }

    private int trunk(int mark, int what, int station) {
        T t = null;
        for (int owner = 0; owner <= 7; owner++) {
            for (int sort = 0; sort <= 3; sort++) {
                for (int thick = 1; thick <= 9; thick++) {
                    if (owner * 100 + sort * 10 + thick == what) {
                        t = new T();
                        t.owner = owner;
                        t.sort = sort;
                        t.thick = thick;
                    }
                }
            }
        }
        if (t == null || !in(mark, 1, 99999) || find(mark) != NONE || at(stations, station) == null
                || trunks.size() == 120) {
            return NONE;
        }
        t.mark = mark;
        t.station = station;
        trunks.add(t);
        return trunks.size() - 1;
    }

    private int find(int mark) {
        for (T t : trunks) {
            if (t.mark == mark) {
                return trunks.indexOf(t);
            }
        }
        return NONE;
    }

    private boolean lies(int trunk) {
        return at(trunks, trunk) != null && trunks.get(trunk).state.equals("LIES");
    }

    private boolean raftIs(int raft, String state) {
        return at(rafts, raft) != null && rafts.get(raft).state.equals(state);
    }

    private int put(int trunk) {
        if (!lies(trunk) || row.contains(trunk) || row.size() == 9) {
            return NONE;
        }
        for (int other : row) {
            if (trunks.get(other).station != trunks.get(trunk).station) {
                return NONE;
            }
        }
        row.add(trunk);
        return row.size();
    }

    private int bind() {
        if (row.isEmpty() || rafts.size() == 60) {
            return NONE;
        }
        R r = new R();
        r.station = trunks.get(row.get(0)).station;
        r.rows.add(row);
        for (int t : row) {
            trunks.get(t).state = "RAFT";
        }
        row = new ArrayList<>();
        rafts.add(r);
        return rafts.size() - 1;
    }

    private int join(int raft, int other) {
        if (!raftIs(raft, "TIED") || !raftIs(other, "TIED") || raft == other) {
            return 0;
        }
        R a = rafts.get(raft);
        R b = rafts.get(other);
        if (a.station != b.station || a.rows.size() + b.rows.size() > 8) {
            return 0;
        }
        a.rows.addAll(b.rows);
        b.rows = new ArrayList<>();
        b.state = "NO MORE";
        return 1;
    }

    private int part(int raft, int n) {
        if (!raftIs(raft, "TIED") || n < 1 || rafts.get(raft).rows.size() <= n || rafts.size() == 60) {
            return NONE;
        }
        R a = rafts.get(raft);
        R b = new R();
        b.station = a.station;
        for (int i = 0; i < n; i++) {
            b.rows.add(0, a.rows.remove(a.rows.size() - 1));
        }
        rafts.add(b);
        return rafts.size() - 1;
    }

    private List<Integer> trunksOf(R r) {
        List<Integer> all = new ArrayList<>();
        for (List<Integer> one : r.rows) {
            all.addAll(one);
        }
        return all;
    }

    private int unbind(int raft) {
        if (!raftIs(raft, "TIED")) {
            return 0;
        }
        R r = rafts.get(raft);
        for (int t : trunksOf(r)) {
            trunks.get(t).state = "LIES";
            trunks.get(t).station = r.station;
        }
        r.rows.clear();
        r.state = "NO MORE";
        return 1;
    }

    private int crew(int home) {
        if (at(stations, home) == null || crews.size() == 10) {
            return NONE;
        }
        C c = new C();
        c.home = home;
        c.station = home;
        crews.add(c);
        return crews.size() - 1;
    }

    private boolean rests(C c) {
        return c.state.equals("AT") && c.cameAt != NONE && now < c.cameAt + 8;
    }

    private int ready(int raft, int crew) {
        if (!raftIs(raft, "TIED") || rafts.get(raft).station == 0 || at(crews, crew) == null) {
            return 0;
        }
        C c = crews.get(crew);
        if (!c.state.equals("AT") || c.station != rafts.get(raft).station || rests(c)) {
            return 0;
        }
        c.state = "RAFT";
        rafts.get(raft).state = "READY";
        rafts.get(raft).crew = crew;
        return 1;
    }

    private int tie(int raft) {
        if (!raftIs(raft, "READY")) {
            return 0;
        }
        R r = rafts.get(raft);
        C c = crews.get(r.crew);
        c.state = "AT";
        c.station = r.station;
        c.cameAt = NONE;
        r.state = "TIED";
        r.crew = NONE;
        return 1;
    }

    private int walk(int crew) {
        C c = at(crews, crew);
        if (c == null || !c.state.equals("AT") || c.station == c.home) {
            return NONE;
        }
        int hours = 0;
        for (int s = c.home; s != c.station; s = stations.get(s).below) {
            if (s == 0) {
                return NONE;
            }
            hours += stations.get(s).hours;
        }
        c.state = "FOOT";
        c.hour = now + hours + hours;
        return c.hour;
    }

    private int go(int n) {
        if (!in(n, 0, 500)) {
            return NONE;
        }
        for (int i = 0; i < n; i++) {
            if (now < 20000) {
                hour();
            }
        }
        return now;
    }

    private void hour() {
        for (R r : rafts) {
            if (r.state.equals("UNDER WAY") && r.hour == now) {
                r.state = "TIED";
                crews.get(r.crew).state = "AT";
                crews.get(r.crew).station = r.station;
                crews.get(r.crew).cameAt = now;
                r.crew = NONE;
                r.hour = NONE;
            }
        }
        for (C c : crews) {
            if (c.state.equals("FOOT") && c.hour == now) {
                c.state = "AT";
                c.station = c.home;
                c.cameAt = now;
                c.hour = NONE;
            }
        }
        for (int s = 1; s < stations.size(); s++) {
            S w = stations.get(s);
            R first = null;
            for (R r : rafts) {
                if (r.state.equals("READY") && r.station == s && width(r) <= w.wide && need(r) <= w.pond
                        && !(w.stormFrom <= now && now < w.stormTo)
                        && (first == null || ahead(r) > ahead(first))) {
                    first = r;
                }
            }
            if (first != null) {
                for (int t : trunksOf(first)) {
                    owed[trunks.get(t).owner] += inForce(tolls, 0, 0);
                }
                first.state = "UNDER WAY";
                first.station = w.below;
                first.hour = now + w.hours;
                w.pond -= need(first);
            }
        }
        for (S s : stations) {
            for (int drop = 0; drop < s.comes; drop++) {
                if (s.pond < s.holds) {
                    s.pond++;
                }
            }
        }
        now++;
    }

    private int ahead(R r) {
        int owner = trunks.get(r.rows.get(0).get(0)).owner;
        return -1000 * rights.getOrDefault(owner, 5) + trunksOf(r).size();
    }

    private int width(R r) {
        int most = 0;
        for (List<Integer> one : r.rows) {
            int sum = 0;
            for (int t : one) {
                sum += trunks.get(t).thick;
            }
            most = Math.max(most, sum);
        }
        return most;
    }

    private static int need(R r) {
        return 5 * r.rows.size();
    }

    private int storm(int station, int from, int to) {
        if (at(stations, station) == null || from < now || to <= from) {
            return 0;
        }
        stations.get(station).stormFrom = from;
        stations.get(station).stormTo = to;
        return 1;
    }

    private int breaks(int raft, boolean odd) {
        if (!raftIs(raft, "UNDER WAY")) {
            return NONE;
        }
        R r = rafts.get(raft);
        int lost = 0;
        for (int t : trunksOf(r)) {
            boolean isOdd = t % 2 != 0;
            trunks.get(t).state = isOdd == odd ? "LOST" : "LIES";
            trunks.get(t).station = r.station;
            lost += isOdd == odd ? 1 : 0;
        }
        C c = crews.get(r.crew);
        c.state = "AT";
        c.station = r.station;
        c.cameAt = now;
        r.rows.clear();
        r.crew = NONE;
        r.hour = NONE;
        r.state = "NO MORE";
        return lost;
    }

    private int right(int owner, int right) {
        if (!in(owner, 0, 7) || !in(right, 0, 9)) {
            return 0;
        }
        rights.put(owner, right);
        return 1;
    }

    private int toll(int day, int sum) {
        if (!in(day, 0, 1000) || !in(sum, 0, 100) || tolls.size() == 30) {
            return 0;
        }
        tolls.add(new int[] {0, 0, day, sum});
        return 1;
    }

    private int price(int city, int sort, int day, int price) {
        if (at(stations, city) == null || !stations.get(city).city || !in(sort, 0, 3) || !in(day, 0, 1000)
                || !in(price, 0, 1000) || prices.size() == 100) {
            return 0;
        }
        prices.add(new int[] {city, sort, day, price});
        return 1;
    }

    private int inForce(List<int[]> told, int city, int sort) {
        for (int day = now / 24; day >= 0; day--) {
            for (int i = told.size() - 1; i >= 0; i--) {
                int[] one = told.get(i);
                if (one[0] == city && one[1] == sort && one[2] == day) {
                    return one[3];
                }
            }
        }
        return 0;
    }

    private int sell(int trunk) {
        if (!lies(trunk) || row.contains(trunk) || !stations.get(trunks.get(trunk).station).city) {
            return NONE;
        }
        T t = trunks.get(trunk);
        t.sum = t.thick * inForce(prices, t.station, t.sort);
        t.state = "SOLD";
        got[t.owner] += t.sum;
        return t.sum;
    }

    private int balance(int owner) {
        return got[owner] - owed[owner] - advanced[owner];
    }

    private int advance(int owner, int n) {
        if (!in(owner, 0, 7) || !in(n, 1, 100000)) {
            return Integer.MIN_VALUE;
        }
        advanced[owner] += n;
        return balance(owner);
    }

    private int plan(int station, int k, int what) {
        if (station == 0 || at(stations, station) == null) {
            return NONE;
        }
        List<Integer> who = new ArrayList<>();
        for (int i = 0; i < rafts.size(); i++) {
            R r = rafts.get(i);
            if (r.state.equals("READY") && r.station == station && width(r) <= stations.get(station).wide
                    && need(r) <= stations.get(station).holds) {
                who.add(i);
            }
        }
        if (who.isEmpty() || who.size() > 5 || k < 0 || k >= who.size()) {
            return NONE;
        }
        List<int[]> best = tryAll(stations.get(station), who, new ArrayList<>(), null);
        return best == null ? NONE : best.get(k)[what];
    }

    private List<int[]> tryAll(S w, List<Integer> left, List<Integer> order, List<int[]> best) {
        if (left.isEmpty()) {
            List<int[]> tried = play(w, order);
            return tried != null && (best == null || sum(tried) < sum(best)) ? tried : best;
        }
        List<int[]> found = best;
        for (int i = 0; i < left.size(); i++) {
            List<Integer> rest = new ArrayList<>(left);
            List<Integer> more = new ArrayList<>(order);
            more.add(rest.remove(i));
            found = tryAll(w, rest, more, found);
        }
        return found;
    }

    private static int sum(List<int[]> passes) {
        int sum = 0;
        for (int[] one : passes) {
            sum += one[1];
        }
        return sum;
    }

    /** Hour by hour; what hasn't passed after 2000 hours never will. */
    private List<int[]> play(S w, List<Integer> order) {
        List<int[]> passes = new ArrayList<>();
        int pond = w.pond;
        for (int hour = now; hour < now + 2000 && passes.size() < order.size(); hour++) {
            int raft = order.get(passes.size());
            if (need(rafts.get(raft)) <= pond) {
                pond -= need(rafts.get(raft));
                passes.add(new int[] {raft, hour});
            }
            pond = Math.min(w.holds, pond + w.comes);
        }
        return passes.size() == order.size() ? passes : null;
    }

    private int told(int trunk, int what) {
        T t = at(trunks, trunk);
        if (t == null || !in(what, 0, 7)) {
            return NONE;
        }
        int inRaft = NONE;
        for (int i = 0; i < rafts.size(); i++) {
            if (trunksOf(rafts.get(i)).contains(trunk)) {
                inRaft = i;
            }
        }
        int state = List.of("LIES", "RAFT", "SOLD", "LOST").indexOf(t.state);
        return new int[] {t.mark, t.owner, t.sort, t.thick, state, lies(trunk) ? t.station : NONE, inRaft, t.sum}[what];
    }

    private int raft(int raft, int what) {
        R r = at(rafts, raft);
        if (r == null || !in(what, 0, 6)) {
            return NONE;
        }
        int state = List.of("TIED", "READY", "UNDER WAY", "NO MORE").indexOf(r.state);
        return new int[] {state, state == 3 ? NONE : r.station, r.rows.size(), trunksOf(r).size(), width(r), r.crew,
            r.hour}[what];
    }

    private int crewed(int crew, int what) {
        C c = at(crews, crew);
        if (c == null || !in(what, 0, 3)) {
            return NONE;
        }
        int state = List.of("AT", "RAFT", "FOOT").indexOf(c.state);
        return new int[] {state, state == 0 ? c.station : NONE, c.hour, rests(c) ? 1 : 0}[what];
    }

    private int count(int what) {
        if (in(what, 100, 111)) {
            return at(stations, what - 100) == null ? NONE : stations.get(what - 100).pond;
        }
        int tolled = 0;
        for (int sum : owed) {
            tolled += sum;
        }
        int sold = 0;
        int lost = 0;
        for (T t : trunks) {
            sold += t.state.equals("SOLD") ? 1 : 0;
            lost += t.state.equals("LOST") ? 1 : 0;
        }
        int[] all = {now, stations.size(), trunks.size(), rafts.size(), crews.size(), tolled, sold, lost};
        return in(what, 0, 7) ? all[what] : NONE;
    }
}
