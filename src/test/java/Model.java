import java.util.ArrayList;
import java.util.Arrays;
import java.util.Collections;
import java.util.HashMap;
import java.util.HashSet;
import java.util.LinkedList;
import java.util.List;
import java.util.Map;
import java.util.PriorityQueue;
import java.util.Set;
import java.util.TreeSet;

/**
 * The document once more, written another way: sets and lists instead of rows, whole states that
 * are copied, and routes that are searched forward over whole paths. It shares nothing with
 * WireDigs, so an error in one of them shows as an answer that differs.
 */
final class Model {
    static final int INVALID = -1000001;
    static final int IMPOSSIBLE = -1000002;
    static final int LIMIT = -1000003;
    static final int MISSING = -1000004;

    /** An error answer on its way out of a change. */
    private static final class Refused extends RuntimeException {
        private static final long serialVersionUID = 1L;
        final int answer;

        Refused(int answer) {
            super(null, null, false, false);
            this.answer = answer;
        }
    }

    private static void refuse(boolean when, int answer) {
        if (when) {
            throw new Refused(answer);
        }
    }

    private static final class N {
        List<Integer> pins = new ArrayList<>();
        int stubbornness;
        int purse;
        /** null if the net is not joined. */
        TreeSet<Integer> wire;
        int dug;
        int paid;
        int got;

        N copy() {
            N n = new N();
            n.pins = pins;
            n.stubbornness = stubbornness;
            n.purse = purse;
            n.wire = wire == null ? null : new TreeSet<>(wire);
            n.dug = dug;
            n.paid = paid;
            n.got = got;
            return n;
        }
    }

    private static final class C {
        int holder;
        int digger;
        Set<Integer> wire;
        int paid;
        int state;
        int at;

        C copy() {
            C c = new C();
            c.holder = holder;
            c.digger = digger;
            c.wire = wire;
            c.paid = paid;
            c.state = state;
            c.at = at;
            return c;
        }
    }

    private static final class S {
        int via = 3;
        int price = 4;
        int rate = 6;
        int patience = 6;
        Set<Integer> blocked = new HashSet<>();
        List<N> nets = new ArrayList<>();
        List<C> claims = new ArrayList<>();
        int acts;

        S copy() {
            S s = new S();
            s.via = via;
            s.price = price;
            s.rate = rate;
            s.patience = patience;
            s.blocked = new HashSet<>(blocked);
            for (N n : nets) {
                s.nets.add(n.copy());
            }
            for (C c : claims) {
                s.claims.add(c.copy());
            }
            s.acts = acts;
            return s;
        }
    }

    private static final class Path implements Comparable<Path> {
        final int cost;
        final List<Integer> cells;

        Path(int cost, List<Integer> cells) {
            this.cost = cost;
            this.cells = cells;
        }

        int last() {
            return cells.get(cells.size() - 1);
        }

        public int compareTo(Path other) {
            if (cost != other.cost) {
                return Integer.compare(cost, other.cost);
            }
            for (int i = 0; i < cells.size() && i < other.cells.size(); i++) {
                int order = Integer.compare(cells.get(i), other.cells.get(i));
                if (order != 0) {
                    return order;
                }
            }
            return Integer.compare(cells.size(), other.cells.size());
        }
    }

    private static final class Route {
        int cost;
        final List<Integer> cells = new ArrayList<>();
    }

    /** How often things came about that a test wants to have seen. */
    final Map<String, Integer> seen;

    private S s = new S();
    private final LinkedList<S> history = new LinkedList<>();
    private String text = "";

    Model(Map<String, Integer> seen) {
        this.seen = seen;
    }

    private void see(String what) {
        seen.merge(what, 1, Integer::sum);
    }

    private interface Change {
        int on(S state);
    }

    private int change(Change c) {
        S after = s.copy();
        int answer;
        try {
            answer = c.on(after);
        } catch (Refused refused) {
            return refused.answer;
        }
        history.addLast(s);
        if (history.size() == 5) {
            history.removeFirst();
        }
        s = after;
        return answer;
    }

    private interface Question {
        int ask();
    }

    private static int ask(Question q) {
        try {
            return q.ask();
        } catch (Refused refused) {
            return refused.answer;
        }
    }

    // ---- cells

    /** As cellOf, but MISSING for a free cell. */
    private static int owner(S s, int cell) {
        int place = cell % 81;
        if (s.blocked.contains(place)) {
            return 20;
        }
        for (int i = 0; i < s.nets.size(); i++) {
            N n = s.nets.get(i);
            if (n.pins.contains(place)) {
                return 10 + i;
            }
            if (n.wire != null && n.wire.contains(cell)) {
                return i;
            }
        }
        return MISSING;
    }

    private static List<Integer> next(int cell) {
        int layer = cell / 81;
        int row = cell % 81 / 9;
        int column = cell % 9;
        List<Integer> all = new ArrayList<>();
        for (int d = -1; d <= 1; d += 2) {
            int r = layer == 1 ? row + d : row;
            int c = layer == 0 ? column + d : column;
            if (r >= 0 && r < 9 && c >= 0 && c < 9) {
                all.add(81 * layer + 9 * r + c);
            }
        }
        return all;
    }

    private static int vias(Set<Integer> wire) {
        int n = 0;
        for (int cell : wire) {
            if (cell < 81 && wire.contains(cell + 81)) {
                n++;
            }
        }
        return n;
    }

    // ---- routes

    /** What entering a cell costs besides the step or via; -1 if it can't be entered. */
    private static int entry(S s, int net, boolean digs, Set<Integer> joined, int cell) {
        int owner = owner(s, cell);
        if (joined.contains(cell) || owner == MISSING || owner == 10 + net) {
            return 0;
        }
        return digs && owner < 10 ? s.price + s.nets.get(owner).stubbornness : -1;
    }

    private static Path path(S s, int net, boolean digs, Set<Integer> joined, int pin) {
        PriorityQueue<Path> open = new PriorityQueue<>();
        open.add(new Path(0, List.of(pin)));
        open.add(new Path(0, List.of(pin + 81)));
        Set<Integer> done = new HashSet<>();
        while (!open.isEmpty()) {
            Path p = open.poll();
            if (joined.contains(p.last())) {
                return p;
            }
            if (!done.add(p.last())) {
                continue;
            }
            List<Integer> ways = next(p.last());
            int other = p.last() < 81 ? p.last() + 81 : p.last() - 81;
            ways.add(other);
            for (int to : ways) {
                int entry = entry(s, net, digs, joined, to);
                if (entry >= 0 && !done.contains(to)) {
                    List<Integer> cells = new ArrayList<>(p.cells);
                    cells.add(to);
                    open.add(new Path(p.cost + entry + (to == other ? s.via : 1), cells));
                }
            }
        }
        return null;
    }

    private static Route route(S s, int net, boolean digs) {
        List<Integer> pins = s.nets.get(net).pins;
        Set<Integer> joined = new HashSet<>(Arrays.asList(pins.get(0), pins.get(0) + 81));
        Route route = new Route();
        for (int i = 1; i < pins.size(); i++) {
            Path p = path(s, net, digs, joined, pins.get(i));
            if (p == null) {
                return null;
            }
            route.cost += p.cost;
            route.cells.addAll(p.cells);
            for (int cell : p.cells) {
                joined.add(cell);
                if (pins.contains(cell % 81)) {
                    joined.add(cell % 81);
                    joined.add(cell % 81 + 81);
                }
            }
        }
        return route;
    }

    /** For each net whose wire a route goes through, what it is to be paid. */
    private static Map<Integer, Integer> owed(S s, Route route) {
        Map<Integer, Integer> owed = new HashMap<>();
        for (int cell : new HashSet<>(route.cells)) {
            int owner = owner(s, cell);
            if (owner >= 0 && owner < 10) {
                owed.merge(owner, s.price + s.nets.get(owner).stubbornness, Integer::sum);
            }
        }
        return owed;
    }

    private static void join(S s, int net, Route route) {
        N n = s.nets.get(net);
        n.wire = new TreeSet<>();
        for (int cell : route.cells) {
            if (!n.pins.contains(cell % 81)) {
                n.wire.add(cell);
            }
        }
    }

    // ---- acts

    private static void needNet(S s, int net) {
        refuse(net < 0 || net >= s.nets.size(), INVALID);
    }

    private static int doLay(S s, int net) {
        needNet(s, net);
        refuse(s.nets.get(net).wire != null, IMPOSSIBLE);
        Route route = route(s, net, false);
        refuse(route == null, IMPOSSIBLE);
        join(s, net, route);
        s.acts++;
        return route.cost;
    }

    private int doDig(S s, int net) {
        needNet(s, net);
        N me = s.nets.get(net);
        refuse(me.wire != null, IMPOSSIBLE);
        Route route = route(s, net, true);
        refuse(route == null, IMPOSSIBLE);
        Map<Integer, Integer> owed = owed(s, route);
        int sum = owed.values().stream().mapToInt(Integer::intValue).sum();
        refuse(sum > me.purse, IMPOSSIBLE);
        refuse(s.claims.size() + owed.size() > 12, LIMIT);
        s.acts++;
        for (int other : new TreeSet<>(owed.keySet())) {
            N n = s.nets.get(other);
            C c = new C();
            c.holder = other;
            c.digger = net;
            c.wire = n.wire;
            c.paid = owed.get(other);
            c.at = s.acts;
            s.claims.add(c);
            n.wire = null;
            n.dug++;
            n.purse += c.paid;
            n.got += c.paid;
        }
        me.purse -= sum;
        me.paid += sum;
        join(s, net, route);
        see("diggings with " + owed.size() + " victims");
        if (new HashSet<>(route.cells).size() < route.cells.size()) {
            int end = route.cells.get(route.cells.size() - 1);
            see(me.wire.contains(end) ? "second path ends on the first" : "second path ends on a pin");
        }
        return sum;
    }

    private static int doRip(S s, int net) {
        needNet(s, net);
        N n = s.nets.get(net);
        refuse(n.wire == null, IMPOSSIBLE);
        int had = n.wire.size();
        n.wire = null;
        s.acts++;
        return had;
    }

    private static int doAppeal(S s, int claim) {
        refuse(claim < 0 || claim >= s.claims.size(), INVALID);
        C c = s.claims.get(claim);
        refuse(c.state != 0 || s.acts - c.at > s.patience, IMPOSSIBLE);
        c.state = 1;
        s.acts++;
        return docket(s).size();
    }

    private static int loss(S s, C c) {
        return s.rate * c.wire.size() + s.via * vias(c.wire);
    }

    private static List<Integer> docket(S s) {
        List<Integer> all = new ArrayList<>();
        for (int i = 0; i < s.claims.size(); i++) {
            if (s.claims.get(i).state == 1) {
                all.add(i);
            }
        }
        // The sort is stable: of several with the same loss the lowest number stays first.
        Collections.sort(all, (a, b) -> loss(s, s.claims.get(b)) - loss(s, s.claims.get(a)));
        return all;
    }

    private int doHear(S s) {
        List<Integer> docket = docket(s);
        refuse(docket.isEmpty(), IMPOSSIBLE);
        C c = s.claims.get(docket.get(0));
        N digger = s.nets.get(c.digger);
        N holder = s.nets.get(c.holder);
        int due = loss(s, c) - c.paid;
        int pays = 0;
        if (due > 0) {
            pays = Math.min(due, digger.purse);
            digger.purse -= pays;
            digger.paid += pays;
            holder.purse += pays;
            holder.got += pays;
            c.paid += pays;
            see(pays == due ? "hearings paid in full" : "hearings not paid in full");
            if (pays < due) {
                see(digger.wire == null ? "digger was not joined" : "digger loses its wire");
                digger.wire = null;
                boolean free = true;
                for (int cell : c.wire) {
                    free &= owner(s, cell) == MISSING;
                }
                if (holder.wire == null && free) {
                    holder.wire = new TreeSet<>(c.wire);
                    see("wire comes back");
                } else {
                    see(holder.wire != null ? "holder is joined" : "wire is not free");
                }
            }
        } else {
            see("hearings without a due");
        }
        c.state = 2;
        s.acts++;
        return pays;
    }

    private static int doPass(S s, int acts) {
        refuse(acts < 1 || acts > 50, INVALID);
        refuse(s.acts + acts > 100000, LIMIT);
        s.acts += acts;
        return s.acts;
    }

    // ---- the face

    int set(int what, int value) {
        return change(t -> {
            int[] was = {t.via, t.price, t.rate, t.patience};
            refuse(what < 0 || what > 3, INVALID);
            refuse(value < (what == 0 || what == 3 ? 1 : 0), INVALID);
            refuse(value > (what == 0 || what == 3 ? 20 : 50), INVALID);
            t.via = what == 0 ? value : t.via;
            t.price = what == 1 ? value : t.price;
            t.rate = what == 2 ? value : t.rate;
            t.patience = what == 3 ? value : t.patience;
            return was[what];
        });
    }

    int block(int place, int is) {
        return change(t -> {
            refuse(place < 0 || place > 80 || is < 0 || is > 1, INVALID);
            refuse(t.blocked.contains(place) == (is == 1), IMPOSSIBLE);
            if (is == 0) {
                t.blocked.remove(place);
            } else {
                refuse(owner(t, place) != MISSING || owner(t, place + 81) != MISSING, IMPOSSIBLE);
                t.blocked.add(place);
            }
            return t.blocked.size();
        });
    }

    int net(int pin0, int pin1, int pin2, int stubbornness, int purse) {
        return change(t -> {
            N n = new N();
            n.pins.add(pin0);
            n.pins.add(pin1);
            if (pin2 != -1) {
                n.pins.add(pin2);
            }
            for (int pin : n.pins) {
                refuse(pin < 0 || pin > 80, INVALID);
            }
            refuse(new HashSet<>(n.pins).size() < n.pins.size(), INVALID);
            refuse(stubbornness < 0 || stubbornness > 9 || purse < 0 || purse > 9999, INVALID);
            for (int pin : n.pins) {
                refuse(owner(t, pin) != MISSING || owner(t, pin + 81) != MISSING, IMPOSSIBLE);
            }
            refuse(t.nets.size() == 6, LIMIT);
            n.stubbornness = stubbornness;
            n.purse = purse;
            t.nets.add(n);
            return t.nets.size() - 1;
        });
    }

    int give(int net, int coins) {
        return change(t -> {
            needNet(t, net);
            refuse(coins < 1 || coins > 9999, INVALID);
            N n = t.nets.get(net);
            refuse(n.purse + coins > 100000, LIMIT);
            n.purse += coins;
            return n.purse;
        });
    }

    int netOf(int net, int what) {
        return ask(() -> {
            needNet(s, net);
            N n = s.nets.get(net);
            Set<Integer> wire = n.wire == null ? new TreeSet<>() : n.wire;
            int[] facts = {
                n.pins.get(0), n.pins.get(1), n.pins.size() == 3 ? n.pins.get(2) : MISSING,
                n.stubbornness, n.purse, n.wire == null ? 0 : 1, wire.size(), vias(wire),
                n.dug, n.paid, n.got
            };
            refuse(what < 0 || what >= facts.length, INVALID);
            return facts[what];
        });
    }

    int cellOf(int cell) {
        return cell < 0 || cell > 161 ? INVALID : owner(s, cell);
    }

    int wireAt(int net, int index) {
        return ask(() -> {
            needNet(s, net);
            refuse(index < 0, INVALID);
            Set<Integer> wire = s.nets.get(net).wire;
            refuse(wire == null || index >= wire.size(), MISSING);
            return new ArrayList<>(wire).get(index);
        });
    }

    int lay(int net) {
        return change(t -> doLay(t, net));
    }

    int dig(int net) {
        return change(t -> doDig(t, net));
    }

    int rip(int net) {
        return change(t -> doRip(t, net));
    }

    int appeal(int claim) {
        return change(t -> doAppeal(t, claim));
    }

    int hear() {
        return change(t -> doHear(t));
    }

    int pass(int acts) {
        return change(t -> doPass(t, acts));
    }

    private Route find(int net, int digs) {
        needNet(s, net);
        refuse(digs < 0 || digs > 1, INVALID);
        refuse(s.nets.get(net).wire != null, IMPOSSIBLE);
        Route route = route(s, net, digs == 1);
        refuse(route == null, MISSING);
        return route;
    }

    int cost(int net, int digs) {
        return ask(() -> find(net, digs).cost);
    }

    int price(int net) {
        return ask(() -> owed(s, find(net, 1)).values().stream().mapToInt(Integer::intValue).sum());
    }

    int victims(int net) {
        return ask(() -> owed(s, find(net, 1)).keySet().stream().mapToInt(k -> 1 << k).sum());
    }

    int routeAt(int net, int digs, int index) {
        return ask(() -> {
            refuse(index < 0, INVALID);
            List<Integer> cells = find(net, digs).cells;
            refuse(index >= cells.size(), MISSING);
            return cells.get(index);
        });
    }

    private static void orders(List<Integer> begin, List<Integer> rest, List<List<Integer>> all) {
        if (rest.isEmpty()) {
            all.add(begin);
        }
        for (int net : rest) {
            List<Integer> longer = new ArrayList<>(begin);
            longer.add(net);
            List<Integer> less = new ArrayList<>(rest);
            less.remove(Integer.valueOf(net));
            orders(longer, less, all);
        }
    }

    int bestOrder(int index) {
        if (index < -1) {
            return INVALID;
        }
        List<Integer> waiting = new ArrayList<>();
        for (int i = 0; i < s.nets.size() && waiting.size() < 3; i++) {
            if (s.nets.get(i).wire == null) {
                waiting.add(i);
            }
        }
        List<List<Integer>> all = new ArrayList<>();
        orders(new ArrayList<>(), waiting, all);
        int most = -1;
        List<Integer> best = null;
        for (List<Integer> order : all) {
            S t = s.copy();
            int joined = 0;
            for (int net : order) {
                joined += ask(() -> doLay(t, net)) >= 0 ? 1 : 0;
            }
            if (joined > most) {
                most = joined;
                best = order;
            }
        }
        if (index == -1) {
            return most;
        }
        return index < best.size() ? best.get(index) : MISSING;
    }

    int claimOf(int claim, int what) {
        if (claim < 0 || claim >= s.claims.size() || what < 0 || what > 7) {
            return INVALID;
        }
        C c = s.claims.get(claim);
        return new int[] {
            c.holder, c.digger, c.wire.size(), vias(c.wire), c.paid, loss(s, c), c.state, s.acts - c.at
        }[what];
    }

    int docketAt(int index) {
        if (index < 0) {
            return INVALID;
        }
        List<Integer> docket = docket(s);
        return index < docket.size() ? docket.get(index) : MISSING;
    }

    int wronged() {
        int set = 0;
        for (C c : s.claims) {
            if (s.nets.get(c.holder).wire == null && c.paid < loss(s, c)) {
                set |= 1 << c.holder;
            }
        }
        return set;
    }

    int count(int what) {
        int joined = 0;
        int coins = 0;
        int cells = 0;
        int above = 0;
        int free = 0;
        for (N n : s.nets) {
            joined += n.wire != null ? 1 : 0;
            coins += n.purse;
            cells += n.wire != null ? n.wire.size() : 0;
        }
        for (int cell = 0; cell < 162; cell++) {
            free += owner(s, cell) == MISSING ? 1 : 0;
        }
        for (int place = 0; place < 81; place++) {
            int a = owner(s, place);
            int b = owner(s, place + 81);
            above += a >= 0 && a < 10 && b >= 0 && b < 10 && a != b ? 1 : 0;
        }
        switch (what) {
            case 0: return s.nets.size();
            case 1: return joined;
            case 2: return s.blocked.size();
            case 3: return free;
            case 4: return s.claims.size();
            case 5: return docket(s).size();
            case 6: return s.acts;
            case 7: return coins;
            case 8: return cells;
            case 9: return above;
            case 10: return history.size();
            case 11: return text.length();
            case 20: return s.via;
            case 21: return s.price;
            case 22: return s.rate;
            case 23: return s.patience;
            default: return INVALID;
        }
    }

    int undo() {
        if (history.isEmpty()) {
            return IMPOSSIBLE;
        }
        s = history.removeLast();
        return history.size();
    }

    int type(int character) {
        if (character < 32 || character > 126) {
            return INVALID;
        }
        if (text.length() == 60) {
            return LIMIT;
        }
        text += (char) character;
        return text.length();
    }

    int clearText() {
        int had = text.length();
        text = "";
        return had;
    }

    /** Returns position, reason and number of orders done. */
    private int[] run(S t) {
        int at = 0;
        int done = 0;
        while (at < text.length()) {
            int end = text.indexOf(';', at);
            String order = end < 0 ? "" : text.substring(at, end);
            int reason = order.matches("h|[ldraw][0-9][0-9]?") ? doOrder(t, order) : 1;
            if (reason > 0) {
                see("faults of reason " + reason);
                return new int[] {at, reason, done};
            }
            done++;
            at = end + 1;
        }
        return new int[] {at, 0, done};
    }

    private int doOrder(S t, String order) {
        char letter = order.charAt(0);
        int number = letter == 'h' ? 0 : Integer.parseInt(order.substring(1));
        boolean ofNet = letter == 'l' || letter == 'd' || letter == 'r';
        if (ofNet && number >= t.nets.size() || letter == 'a' && number >= t.claims.size()) {
            return 2;
        }
        int answer = ask(() -> {
            switch (letter) {
                case 'l': return doLay(t, number);
                case 'd': return doDig(t, number);
                case 'r': return doRip(t, number);
                case 'a': return doAppeal(t, number);
                case 'h': return doHear(t);
                default: return doPass(t, number);
            }
        });
        return answer < 0 ? 3 : 0;
    }

    int fault(int what) {
        if (what < 0 || what > 1) {
            return INVALID;
        }
        int[] run = run(s.copy());
        return run[1] == 0 ? MISSING : run[what];
    }

    int play() {
        return change(t -> {
            int[] run = run(t);
            refuse(run[1] != 0, IMPOSSIBLE);
            see("plays of " + (run[2] > 2 ? "many" : "few") + " orders");
            return run[2];
        });
    }
}
