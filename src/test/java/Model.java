import java.util.ArrayDeque;
import java.util.ArrayList;
import java.util.Collection;
import java.util.Comparator;
import java.util.List;
import java.util.TreeMap;

/**
 * The document once more, written another way: packets are objects, the tree is walked by recursion, texts are read
 * by recursive descent, and nothing is ever copied: undo() and what would be play all acts anew.
 */
final class Model {
    static final int BAD = -1, STATE = -2, FULL = -3, NONE = -9;

    interface Act {
        int on(World world);
    }

    static final class Packet {
        final Conn sender;
        final int number;
        final int sentAt;

        Packet(Conn sender, int number, int sentAt) {
            this.sender = sender;
            this.number = number;
            this.sentAt = sentAt;
        }
    }

    static final class Conn {
        final int id;
        Conn parent;
        boolean closed;
        int weight, amount, limit, credit = 32, threshold = 32, backlog, backoff, penalty, mark, samples, next;
        int s;
        long v;
        boolean estimated;
        int acked, lost, gaps, timeouts, dropped;
        final List<Packet> flight = new ArrayList<>();

        Conn(int id, int weight) {
            this.id = id;
            this.weight = weight;
        }

        int window() {
            int least = limit == 0 ? 0 : 1;
            return Math.max(least, Math.min(credit / 16, limit) * (16 - penalty) / 16);
        }

        int timeout() {
            long base = estimated ? Math.max(2, s / 8 + v) : 10;
            for (int i = 0; i < backoff && base < 400; i++) {
                base *= 2;
            }
            return (int) Math.min(400, base);
        }
    }

    static final class World {
        final TreeMap<Integer, Conn> open = new TreeMap<>();
        final ArrayDeque<Packet> queue = new ArrayDeque<>();
        final TreeMap<Integer, List<Packet>> acks = new TreeMap<>();
        int budget = 40, capacity = 20, rate = 2, delay = 5, clock, late;

        World() {
            open.put(0, new Conn(0, 1));
        }

        List<Conn> children(Conn c) {
            List<Conn> found = new ArrayList<>();
            for (Conn one : open.values()) {
                if (one.parent == c) {
                    found.add(one);
                }
            }
            return found;
        }

        List<Conn> kin(Conn c) {
            List<Conn> found = new ArrayList<>();
            for (Conn one : open.values()) {
                boolean sibling = c.parent != null && one.parent == c.parent && one != c;
                if (one == c.parent || one.parent == c || sibling) {
                    found.add(one);
                }
            }
            return found;
        }

        void share() {
            open.get(0).amount = budget;
            share(open.get(0));
        }

        private void share(Conn c) {
            List<Conn> all = new ArrayList<>();
            all.add(c);
            all.addAll(children(c));
            int whole = all.stream().mapToInt(one -> one.weight).sum();
            int total = c.amount;
            int left = total;
            for (Conn one : all) {
                int part = total * one.weight / whole;
                left -= part;
                grant(c, one, part);
            }
            List<Conn> order = new ArrayList<>(all);
            order.sort(Comparator.comparingInt((Conn one) -> -(total * one.weight % whole)));
            for (Conn one : order.subList(0, left)) {
                grant(c, one, (one == c ? one.limit : one.amount) + 1);
            }
            children(c).forEach(this::share);
        }

        private static void grant(Conn divider, Conn one, int part) {
            if (one == divider) {
                one.limit = part;
            } else {
                one.amount = part;
            }
        }

        int open(int parent, int weight) {
            int id = 0;
            while (open.containsKey(id)) {
                id++;
            }
            Conn from = open.get(parent);
            Conn c = new Conn(id, weight);
            c.parent = from;
            c.credit = from.credit * weight / (weight + from.weight);
            from.credit -= c.credit;
            c.threshold = from.threshold;
            c.penalty = from.penalty;
            c.estimated = from.estimated;
            c.s = from.s;
            c.v = Math.min(2 * from.v, 1L << 50);
            open.put(id, c);
            return id;
        }

        int close(int id) {
            Conn c = open.remove(id);
            Conn to = c.parent;
            c.closed = true;
            children(c).forEach(one -> one.parent = to);
            to.credit = Math.min(1024, to.credit + c.credit);
            to.backlog = Math.min(9999, to.backlog + c.backlog);
            to.penalty = Math.max(to.penalty, c.penalty);
            if (c.samples > 0 && to.samples > 0) {
                int m = to.samples;
                int n = c.samples;
                to.s = (m * to.s + n * c.s) / (m + n);
                to.v = (m * to.v + n * c.v) / (m + n);
                to.samples = Math.min(16, m + n);
            } else if (c.samples > 0) {
                to.estimated = true;
                to.s = c.s;
                to.v = c.v;
                to.samples = c.samples;
            }
            return to.id;
        }

        int load(List<int[]> text) {
            open.clear();
            queue.clear();
            acks.clear();
            clock = 0;
            late = 0;
            open.put(0, new Conn(0, text.get(0)[1]));
            for (int[] one : text.subList(1, text.size())) {
                open(one[0], one[1]);
            }
            return text.size();
        }

        int flights() {
            return open.values().stream().mapToInt(c -> c.flight.size()).sum();
        }

        int run(int ticks) {
            int sum = 0;
            for (int i = 0; i < ticks; i++) {
                sum += tick();
            }
            return sum;
        }

        private int tick() {
            int taken = 0;
            List<Packet> arriving = acks.remove(clock);
            if (arriving != null) {
                for (Packet p : arriving) {
                    taken += arrive(p);
                }
            }
            open.values().forEach(this::checkTimeout);
            sendAll();
            for (int i = 0; i < rate && !queue.isEmpty(); i++) {
                acks.computeIfAbsent(clock + delay, k -> new ArrayList<>()).add(queue.poll());
            }
            if (clock % 8 == 0) {
                open.values().forEach(c -> c.penalty = c.penalty > 0 ? c.penalty - 1 : 0);
            }
            clock++;
            return taken;
        }

        private int arrive(Packet p) {
            Conn c = p.sender;
            if (c.closed || !c.flight.contains(p)) {
                late++;
                return 0;
            }
            List<Packet> before = new ArrayList<>(c.flight.subList(0, c.flight.indexOf(p)));
            c.flight.removeAll(before);
            c.flight.remove(p);
            if (!before.isEmpty()) {
                c.lost += before.size();
                c.backlog = Math.min(9999, c.backlog + before.size());
                if (before.get(0).number >= c.mark) {
                    c.gaps++;
                    c.threshold = Math.max(2, c.credit / 32);
                    c.credit = 16 * c.threshold;
                    hurt(c, 2, 1);
                }
            }
            c.acked++;
            int r = clock - p.sentAt;
            if (c.samples == 0) {
                c.estimated = true;
                c.s = 8 * r;
                c.v = 2 * r;
            } else {
                int d = r - c.s / 8;
                c.s = c.s + d;
                c.v = c.v + Math.abs(d) - c.v / 4;
            }
            c.samples = Math.min(16, c.samples + 1);
            c.backoff = 0;
            if (before.isEmpty()) {
                int growth = c.credit / 16 < c.threshold ? 16 : Math.max(1, 256 / c.credit);
                c.credit = Math.min(1024, c.credit + growth);
            }
            return 1;
        }

        private void checkTimeout(Conn c) {
            if (c.flight.isEmpty() || clock - c.flight.get(0).sentAt < c.timeout()) {
                return;
            }
            c.lost += c.flight.size();
            c.backlog = Math.min(9999, c.backlog + c.flight.size());
            c.flight.clear();
            c.timeouts++;
            c.threshold = Math.max(2, c.credit / 32);
            c.credit = 16;
            c.backoff = Math.min(6, c.backoff + 1);
            hurt(c, 4, 2);
        }

        private void hurt(Conn c, int own, int others) {
            c.mark = c.next;
            c.penalty = Math.min(12, c.penalty + own);
            kin(c).forEach(one -> one.penalty = Math.min(12, one.penalty + others));
        }

        private void sendAll() {
            List<Conn> round = new ArrayList<>(open.tailMap(clock % 10).values());
            round.addAll(open.headMap(clock % 10).values());
            int sent;
            do {
                sent = 0;
                for (Conn c : round) {
                    if (c.backlog > 0 && c.flight.size() < c.window() && flights() < budget) {
                        Packet p = new Packet(c, c.next++, clock);
                        c.backlog--;
                        c.flight.add(p);
                        if (queue.size() >= capacity) {
                            c.dropped++;
                        } else {
                            queue.add(p);
                        }
                        sent++;
                    }
                }
            } while (sent > 0);
        }
    }

    /** Reads a text by recursive descent; a fault ends it by this exception. */
    private static final class Fault extends Exception {
        private static final long serialVersionUID = 1;
        final int kind;
        final int at;

        Fault(int kind, int at) {
            super("kind " + kind + " at " + at);
            this.kind = kind;
            this.at = at;
        }
    }

    private static final class Reader {
        final String text;
        int at;
        final List<int[]> found = new ArrayList<>();

        Reader(String text) {
            this.text = text;
        }

        void skip() {
            while (at < text.length() && text.charAt(at) == ' ') {
                at++;
            }
        }

        void connection(int parent, int nesting) throws Fault {
            skip();
            if (at == text.length() || text.charAt(at) < '0' || text.charAt(at) > '9') {
                throw new Fault(1, at);
            }
            if (found.size() == 10) {
                throw new Fault(3, at);
            }
            if (text.charAt(at) == '0') {
                throw new Fault(2, at);
            }
            int own = found.size();
            found.add(new int[] {parent, text.charAt(at++) - '0'});
            skip();
            if (at == text.length() || text.charAt(at) != '(') {
                return;
            }
            if (nesting == 4) {
                throw new Fault(4, at);
            }
            at++;
            do {
                connection(own, nesting + 1);
                skip();
            } while (at == text.length() || text.charAt(at) != ')');
            at++;
        }

        void family() throws Fault {
            connection(NONE, 0);
            skip();
            if (at < text.length()) {
                throw new Fault(1, at);
            }
        }
    }

    private final List<Act> acts = new ArrayList<>();
    private final StringBuilder text = new StringBuilder();
    private World now = new World();
    private int remembered;
    private int faultKind = NONE;

    Model() {
        now.share();
    }

    private World playAnew() {
        World world = new World();
        world.share();
        for (Act act : acts) {
            act.on(world);
            world.share();
        }
        return world;
    }

    private int act(Act act) {
        acts.add(act);
        remembered = Math.min(5, remembered + 1);
        int answer = act.on(now);
        now.share();
        return answer;
    }

    private static boolean in(int v, int least, int most) {
        return v >= least && v <= most;
    }

    int type(int c) {
        if (!in(c, 32, 126)) {
            return BAD;
        }
        if (text.length() == 60) {
            return FULL;
        }
        return text.append((char) c).length();
    }

    int clear() {
        int had = text.length();
        text.setLength(0);
        return had;
    }

    int load() {
        Reader reader = new Reader(text.toString());
        try {
            reader.family();
        } catch (Fault fault) {
            faultKind = fault.kind;
            return -10 - fault.at;
        }
        faultKind = NONE;
        return act(world -> world.load(reader.found));
    }

    int fault() {
        return faultKind;
    }

    int open(int parent, int weight) {
        if (!now.open.containsKey(parent) || !in(weight, 1, 9)) {
            return BAD;
        }
        return now.open.size() == 10 ? FULL : act(world -> world.open(parent, weight));
    }

    int close(int c) {
        if (c == 0 || !now.open.containsKey(c)) {
            return BAD;
        }
        return now.open.get(c).flight.isEmpty() ? act(world -> world.close(c)) : STATE;
    }

    int give(int c, int n) {
        if (!now.open.containsKey(c) || !in(n, 1, 500)) {
            return BAD;
        }
        return now.open.get(c).backlog + n > 9999 ? FULL : act(world -> world.open.get(c).backlog += n);
    }

    int setWeight(int c, int weight) {
        if (!now.open.containsKey(c) || !in(weight, 1, 9)) {
            return BAD;
        }
        return act(world -> {
            int before = world.open.get(c).weight;
            world.open.get(c).weight = weight;
            return before;
        });
    }

    int setBudget(int b) {
        if (!in(b, 1, 200)) {
            return BAD;
        }
        return now.flights() > b ? STATE : act(world -> {
            int before = world.budget;
            world.budget = b;
            return before;
        });
    }

    int setLink(int what, int v) {
        int most = what == 0 ? 60 : what == 1 ? 8 : 30;
        if (!in(what, 0, 2) || !in(v, 1, most)) {
            return BAD;
        }
        return act(world -> {
            int before = what == 0 ? world.capacity : what == 1 ? world.rate : world.delay;
            world.capacity = what == 0 ? v : world.capacity;
            world.rate = what == 1 ? v : world.rate;
            world.delay = what == 2 ? v : world.delay;
            return before;
        });
    }

    int run(int ticks) {
        return in(ticks, 1, 60) ? act(world -> world.run(ticks)) : BAD;
    }

    int property(int c, int what) {
        if (!now.open.containsKey(c) || !in(what, 0, 16)) {
            return BAD;
        }
        Conn o = now.open.get(c);
        int[] all = {o.parent == null ? NONE : o.parent.id, o.weight, o.amount, o.limit, o.credit, o.threshold,
            o.window(), o.flight.size(), o.backlog, o.penalty, o.backoff, o.timeout(), o.estimated ? o.s : NONE,
            o.estimated ? (int) o.v : NONE, o.samples, o.next, o.mark};
        return all[what];
    }

    int count(int c, int what) {
        if (!now.open.containsKey(c) || !in(what, 0, 5)) {
            return BAD;
        }
        Conn o = now.open.get(c);
        return new int[] {o.next, o.acked, o.lost, o.gaps, o.timeouts, o.dropped}[what];
    }

    int told(int what) {
        if (!in(what, 0, 12)) {
            return BAD;
        }
        Collection<Conn> all = now.open.values();
        int onWay = now.acks.values().stream().mapToInt(List::size).sum();
        int credits = all.stream().mapToInt(c -> c.credit).sum();
        return new int[] {now.clock, now.budget, now.capacity, now.rate, now.delay, all.size(), now.flights(),
            now.queue.size(), onWay, credits, now.late, remembered, text.length()}[what];
    }

    int child(int c, int i) {
        if (!now.open.containsKey(c) || i < 0) {
            return BAD;
        }
        List<Conn> children = now.children(now.open.get(c));
        return i < children.size() ? children.get(i).id : NONE;
    }

    int kin(int c) {
        if (!now.open.containsKey(c)) {
            return BAD;
        }
        return now.kin(now.open.get(c)).stream().mapToInt(one -> 1 << one.id).sum();
    }

    int distance(int c, int d) {
        if (!now.open.containsKey(c) || !now.open.containsKey(d)) {
            return BAD;
        }
        List<Conn> above = lineOf(c);
        List<Conn> other = lineOf(d);
        int shared = (int) above.stream().filter(other::contains).count();
        return above.size() + other.size() - 2 * shared;
    }

    private List<Conn> lineOf(int c) {
        List<Conn> line = new ArrayList<>();
        for (Conn one = now.open.get(c); one != null; one = one.parent) {
            line.add(one);
        }
        return line;
    }

    int inFlight(int c, int i, int what) {
        if (!now.open.containsKey(c) || i < 0 || !in(what, 0, 1)) {
            return BAD;
        }
        List<Packet> flight = now.open.get(c).flight;
        return i >= flight.size() ? NONE : what == 0 ? flight.get(i).number : flight.get(i).sentAt;
    }

    int queued(int i) {
        if (i < 0) {
            return BAD;
        }
        return i < now.queue.size() ? new ArrayList<>(now.queue).get(i).sender.id : NONE;
    }

    int due(int c) {
        if (!now.open.containsKey(c)) {
            return BAD;
        }
        Conn o = now.open.get(c);
        return o.flight.isEmpty() ? NONE : Math.max(now.clock, o.flight.get(0).sentAt + o.timeout());
    }

    int fairness() {
        long[] all = now.open.values().stream().filter(c -> c.limit > 0)
            .mapToLong(c -> c.acked * 60L / c.limit).toArray();
        long s = 0;
        long q = 0;
        for (long x : all) {
            s += x;
            q += x * x;
        }
        return s == 0 ? NONE : (int) (1000 * s * s / (all.length * q));
    }

    int ifBudget(int budget, int ticks) {
        if (!in(budget, 1, 200) || !in(ticks, 1, 60)) {
            return BAD;
        }
        World world = playAnew();
        world.budget = budget;
        world.share();
        return world.run(ticks);
    }

    int bestBudget(int ticks) {
        if (!in(ticks, 1, 15)) {
            return BAD;
        }
        int best = 100;
        for (int budget = 80; budget >= 20; budget -= 20) {
            best = ifBudget(budget, ticks) >= ifBudget(best, ticks) ? budget : best;
        }
        return best;
    }

    int ifOpened(int parent, int weight, int c) {
        if (!now.open.containsKey(parent) || !in(weight, 1, 9) || c != NONE && !now.open.containsKey(c)) {
            return BAD;
        }
        if (now.open.size() == 10) {
            return FULL;
        }
        World world = playAnew();
        int opened = world.open(parent, weight);
        world.share();
        return world.open.get(c == NONE ? opened : c).limit;
    }

    int undo() {
        if (remembered == 0) {
            return STATE;
        }
        acts.remove(acts.size() - 1);
        now = playAnew();
        return --remembered;
    }

    long digest() {
        List<Integer> values = new ArrayList<>();
        for (int what = 0; what <= 12; what++) {
            values.add(told(what));
        }
        for (Conn c : now.open.values()) {
            values.add(c.id);
            for (int what = 0; what <= 16; what++) {
                values.add(property(c.id, what));
            }
            for (int what = 0; what <= 5; what++) {
                values.add(count(c.id, what));
            }
            values.add(kin(c.id));
            for (Packet p : c.flight) {
                values.add(p.number);
                values.add(p.sentAt);
            }
        }
        for (Packet p : now.queue) {
            values.add(p.sender.id);
        }
        values.add(faultKind);
        values.add(fairness());
        long h = 18506;
        for (int v : values) {
            h = 31 * h + v;
        }
        return h;
    }
}
