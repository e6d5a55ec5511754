/**
 * Families of connections that share a budget over one link. What each public method promises is told by DOC.md;
 * the class Family holds the state that acts change and undo() restores, the classes after it are its parts.
 */
public final class ConnectionFamily {
    public static final int BAD = -1, STATE = -2, FULL = -3, NONE = -9;

    private static final int CONNECTIONS = 10;
    private static final int HEAD = 0;
    private static final int MOST_WEIGHT = 9;
    private static final int MOST_BUDGET = 200;
    private static final int MOST_BACKLOG = 9999;
    private static final int MOST_GIVEN = 500;
    private static final int MOST_CREDIT = 1024;
    private static final int MOST_PENALTY = 12;
    private static final int MOST_BACKOFF = 6;
    private static final int MOST_SAMPLES = 16;
    private static final int MOST_TIMEOUT = 400;
    private static final int MOST_CAPACITY = 60;
    private static final int MOST_RATE = 8;
    private static final int MOST_DELAY = 30;
    private static final int MOST_TICKS = 60;
    private static final int MOST_TRIAL_TICKS = 15;
    private static final int MOST_STATES = 5;
    private static final int MOST_BYTES = 60;
    private static final int MOST_NESTING = 4;
    private static final int PROPERTIES = 17;
    private static final int COUNTS = 6;
    private static final int TOLD = 13;
    /** A window is at most a whole credit, so that no flight can be longer. */
    private static final int MOST_FLIGHT = MOST_CREDIT / 16;
    /** A served packet is on its way for at most MOST_DELAY ticks, so that no more of them can be on their way. */
    private static final int MOST_ON_WAY = MOST_RATE * MOST_DELAY;
    /** V doubles from child to child without an end; its timeouts, and its last 32 bits, stay the same from here. */
    private static final long MOST_V = 1L << 60;
    private static final int[] TRIAL_BUDGETS = {20, 40, 60, 80, 100};

    private final FamilyText text;
    private final History history;
    private final Family family;
    /** Where what would be is tried out; made when it is first needed, and used again. */
    private Family trial;

    public ConnectionFamily() {
        text = new FamilyText();
        history = new History();
        family = new Family();
    }

    public int type(int c) {
        if (c < 32 || c > 126) {
            return BAD;
        }
        return text.append(c) ? text.size : FULL;
    }

    public int clear() {
        int had = text.size;
        text.size = 0;
        return had;
    }

    public int load() {
        text.read();
        if (text.faultKind != NONE) {
            return -10 - text.faultPlace;
        }
        history.record(family);
        family.restart(text.weights[HEAD]);
        for (int i = 1; i < text.members && i < CONNECTIONS; i++) {
            family.addConnection(text.parents[i], text.weights[i]);
        }
        family.shareBudget();
        return text.members;
    }

    public int fault() {
        return text.faultKind;
    }

    public int open(int parent, int weight) {
        if (!family.has(parent) || !isWeight(weight)) {
            return BAD;
        }
        if (family.smallestClosed() == NONE) {
            return FULL;
        }
        history.record(family);
        int opened = family.addConnection(parent, weight);
        family.shareBudget();
        return opened;
    }

    public int close(int c) {
        if (c == HEAD || !family.has(c)) {
            return BAD;
        }
        if (family.members[c].flight.size > 0) {
            return STATE;
        }
        history.record(family);
        int parent = family.removeConnection(c);
        family.shareBudget();
        return parent;
    }

    public int give(int c, int n) {
        if (!family.has(c) || n < 1 || n > MOST_GIVEN) {
            return BAD;
        }
        if (family.members[c].backlog + n > MOST_BACKLOG) {
            return FULL;
        }
        history.record(family);
        family.members[c].addBacklog(n);
        return family.members[c].backlog;
    }

    public int setWeight(int c, int weight) {
        if (!family.has(c) || !isWeight(weight)) {
            return BAD;
        }
        history.record(family);
        int before = family.members[c].weight;
        family.members[c].weight = weight;
        family.shareBudget();
        return before;
    }

    public int setBudget(int b) {
        if (!isBudget(b)) {
            return BAD;
        }
        if (family.allFlights() > b) {
            return STATE;
        }
        history.record(family);
        int before = family.budget;
        family.changeBudget(b);
        return before;
    }

    public int setLink(int what, int v) {
        if (v < 1 || v > Link.most(what)) {
            return BAD;
        }
        history.record(family);
        return family.link.change(what, v);
    }

    public int run(int ticks) {
        if (ticks < 1 || ticks > MOST_TICKS) {
            return BAD;
        }
        history.record(family);
        return family.runTicks(ticks);
    }

    public int property(int c, int what) {
        if (!family.has(c) || what < 0 || what >= PROPERTIES) {
            return BAD;
        }
        return family.members[c].tell(what);
    }

    public int count(int c, int what) {
        if (!family.has(c) || what < 0 || what >= COUNTS) {
            return BAD;
        }
        return family.members[c].tally(what);
    }

    public int told(int what) {
        switch (what) {
            case 0: return family.tick;
            case 1: return family.budget;
            case 2: return family.link.capacity;
            case 3: return family.link.rate;
            case 4: return family.link.delay;
            case 5: return family.allOpen();
            case 6: return family.allFlights();
            case 7: return family.link.queue.size;
            case 8: return family.link.onWay.size;
            case 9: return family.allCredits();
            case 10: return family.late;
            case 11: return history.size;
            case 12: return text.size;
            default: return BAD;
        }
    }

    public int child(int c, int i) {
        if (!family.has(c) || i < 0) {
            return BAD;
        }
        int place = 0;
        for (int k = 0; k < CONNECTIONS; k++) {
            if (family.isChild(k, c)) {
                if (place == i) {
                    return k;
                }
                place++;
            }
        }
        return NONE;
    }

    public int kin(int c) {
        return family.has(c) ? family.kinOf(c) : BAD;
    }

    public int distance(int c, int d) {
        if (!family.has(c) || !family.has(d)) {
            return BAD;
        }
        return family.stepsBetween(c, d);
    }

    public int inFlight(int c, int i, int what) {
        if (!family.has(c) || i < 0 || what < 0 || what > 1) {
            return BAD;
        }
        Flight flight = family.members[c].flight;
        if (i >= flight.size) {
            return NONE;
        }
        return what == 0 ? flight.numbers[i] : flight.ticks[i];
    }

    public int queued(int i) {
        if (i < 0) {
            return BAD;
        }
        PacketRow queue = family.link.queue;
        return i < queue.size ? queue.senders[i] : NONE;
    }

    public int due(int c) {
        if (!family.has(c)) {
            return BAD;
        }
        Connection asked = family.members[c];
        if (asked.flight.size == 0) {
            return NONE;
        }
        return Math.max(family.tick, asked.flight.ticks[0] + asked.timeout());
    }

    public int fairness() {
        long n = 0;
        long s = 0;
        long q = 0;
        for (int k = 0; k < CONNECTIONS; k++) {
            Connection one = family.members[k];
            if (one.isOpen && one.limit >= 1) {
                long x = one.acknowledged * 60L / one.limit;
                n++;
                s += x;
                q += x * x;
            }
        }
        long divisor = n * q;
        return divisor > 0 ? (int) (1000 * s * s / divisor) : NONE;
    }

    public int ifBudget(int budget, int ticks) {
        if (!isBudget(budget) || ticks < 1 || ticks > MOST_TICKS) {
            return BAD;
        }
        Family tried = copyForTrial();
        tried.changeBudget(budget);
        return tried.runTicks(ticks);
    }

    public int bestBudget(int ticks) {
        if (ticks < 1 || ticks > MOST_TRIAL_TICKS) {
            return BAD;
        }
        int best = NONE;
        int most = -1;
        for (int budget : TRIAL_BUDGETS) {
            Family tried = copyForTrial();
            tried.changeBudget(budget);
            int acknowledged = tried.runTicks(ticks);
            if (acknowledged > most) {
                most = acknowledged;
                best = budget;
            }
        }
        return best;
    }

    public int ifOpened(int parent, int weight, int c) {
        if (!family.has(parent) || !isWeight(weight) || (c != NONE && !family.has(c))) {
            return BAD;
        }
        if (family.smallestClosed() == NONE) {
            return FULL;
        }
        Family tried = copyForTrial();
        int opened = tried.addConnection(parent, weight);
        tried.shareBudget();
        int asked = c == NONE ? opened : c;
        return tried.has(asked) ? tried.members[asked].limit : BAD;
    }

    public int undo() {
        return history.restore(family) ? history.size : STATE;
    }

    public long digest() {
        long h = 18506;
        for (int what = 0; what < TOLD; what++) {
            h = 31 * h + told(what);
        }
        for (int c = 0; c < CONNECTIONS; c++) {
            if (family.has(c)) {
                h = digestOf(c, h);
            }
        }
        for (int i = 0; i < family.link.queue.size; i++) {
            h = 31 * h + queued(i);
        }
        h = 31 * h + fault();
        return 31 * h + fairness();
    }

    private long digestOf(int c, long before) {
        long h = 31 * before + c;
        for (int what = 0; what < PROPERTIES; what++) {
            h = 31 * h + property(c, what);
        }
        for (int what = 0; what < COUNTS; what++) {
            h = 31 * h + count(c, what);
        }
        h = 31 * h + kin(c);
        for (int i = 0; i < family.members[c].flight.size; i++) {
            h = 31 * h + inFlight(c, i, 0);
            h = 31 * h + inFlight(c, i, 1);
        }
        return h;
    }

    private Family copyForTrial() {
        if (trial == null) {
            trial = new Family();
        }
        trial.copyFrom(family);
        return trial;
    }

    private static boolean isWeight(int weight) {
        return weight >= 1 && weight <= MOST_WEIGHT;
    }

    private static boolean isBudget(int budget) {
        return budget >= 1 && budget <= MOST_BUDGET;
    }

    /** The state: the tree of connections, the budget, the clock and the link. */
    private static final class Family {
        final Connection[] members = new Connection[CONNECTIONS];
        final Link link = new Link();
        int budget = 40;
        int tick;
        int late;
        /** Tells a connection from an earlier one of the same number, whose packets may still be on the link. */
        int lastSerial;
        /** Used while amounts are divided, and of no meaning afterwards. */
        final int[] order = new int[CONNECTIONS];
        final int[] remainders = new int[CONNECTIONS];

        Family() {
            for (int k = 0; k < CONNECTIONS; k++) {
                members[k] = new Connection();
            }
            restart(1);
            shareBudget();
        }

        void copyFrom(Family other) {
            for (int k = 0; k < CONNECTIONS; k++) {
                members[k].copyFrom(other.members[k]);
            }
            link.copyFrom(other.link);
            budget = other.budget;
            tick = other.tick;
            late = other.late;
            lastSerial = other.lastSerial;
        }

        /** Limits are not shared here: the caller may still open connections. */
        void restart(int weight) {
            for (int k = 0; k < CONNECTIONS; k++) {
                members[k].isOpen = false;
            }
            members[HEAD].becomeHead(weight);
            link.becomeEmpty();
            tick = 0;
            late = 0;
        }

        boolean has(int c) {
            return c >= 0 && c < CONNECTIONS && members[c].isOpen;
        }

        boolean isChild(int c, int parent) {
            return c >= 0 && c < CONNECTIONS && members[c].isOpen && members[c].parent == parent;
        }

        int smallestClosed() {
            for (int k = 0; k < CONNECTIONS; k++) {
                if (!members[k].isOpen) {
                    return k;
                }
            }
            return NONE;
        }

        int allOpen() {
            int sum = 0;
            for (int k = 0; k < CONNECTIONS; k++) {
                sum += members[k].isOpen ? 1 : 0;
            }
            return sum;
        }

        int allFlights() {
            int sum = 0;
            for (int k = 0; k < CONNECTIONS; k++) {
                sum += members[k].isOpen ? members[k].flight.size : 0;
            }
            return sum;
        }

        int allCredits() {
            int sum = 0;
            for (int k = 0; k < CONNECTIONS; k++) {
                sum += members[k].isOpen ? members[k].credit : 0;
            }
            return sum;
        }

        int kinOf(int c) {
            int set = 0;
            for (int k = 0; k < CONNECTIONS; k++) {
                if (isKin(k, c)) {
                    set |= 1 << k;
                }
            }
            return set;
        }

        boolean isKin(int k, int c) {
            if (k == c || !has(k) || !has(c)) {
                return false;
            }
            int parent = members[c].parent;
            return k == parent || members[k].parent == c || members[k].parent == parent;
        }

        int stepsBetween(int c, int d) {
            int above = c;
            for (int up = 0; up < CONNECTIONS && has(above); up++) {
                int down = stepsUp(d, above);
                if (down != NONE) {
                    return up + down;
                }
                above = members[above].parent;
            }
            return NONE;
        }

        int stepsUp(int c, int ancestor) {
            int above = c;
            for (int up = 0; up < CONNECTIONS && has(above); up++) {
                if (above == ancestor) {
                    return up;
                }
                above = members[above].parent;
            }
            return NONE;
        }

        void changeBudget(int b) {
            budget = b;
            shareBudget();
        }

        /** Limits are not shared here: several connections may be opened before they are. */
        int addConnection(int parent, int weight) {
            int opened = smallestClosed();
            if (opened == NONE || !has(parent)) {
                return NONE;
            }
            lastSerial++;
            members[opened].becomeChild(parent, members[parent], weight, lastSerial);
            return opened;
        }

        int removeConnection(int c) {
            if (!has(c) || !has(members[c].parent)) {
                return NONE;
            }
            int parent = members[c].parent;
            for (int k = 0; k < CONNECTIONS; k++) {
                if (isChild(k, c)) {
                    members[k].parent = parent;
                }
            }
            members[parent].takeBack(members[c]);
            members[c].isOpen = false;
            return parent;
        }

        /** A child's number can be smaller than its parent's, so that the order of the tree has to be found. */
        void shareBudget() {
            members[HEAD].amount = budget;
            order[0] = HEAD;
            int known = 1;
            for (int i = 0; i < known && i < CONNECTIONS; i++) {
                divideAmount(order[i]);
                for (int k = 0; k < CONNECTIONS; k++) {
                    if (isChild(k, order[i]) && known < CONNECTIONS) {
                        order[known] = k;
                        known++;
                    }
                }
            }
        }

        void divideAmount(int c) {
            if (!has(c)) {
                return;
            }
            Connection self = members[c];
            int sum = self.weight;
            for (int k = 0; k < CONNECTIONS; k++) {
                sum += isChild(k, c) ? members[k].weight : 0;
            }
            if (sum < 1) {
                return;
            }
            self.limit = self.amount * self.weight / sum;
            remainders[c] = self.amount * self.weight % sum;
            int left = self.amount - self.limit;
            for (int k = 0; k < CONNECTIONS; k++) {
                if (isChild(k, c)) {
                    members[k].amount = self.amount * members[k].weight / sum;
                    remainders[k] = self.amount * members[k].weight % sum;
                    left -= members[k].amount;
                }
            }
            for (int i = 0; i < left && i < CONNECTIONS; i++) {
                giveOneMore(c);
            }
        }

        void giveOneMore(int c) {
            int greatest = c;
            for (int k = 0; k < CONNECTIONS; k++) {
                if (isChild(k, c) && remainders[k] > remainders[greatest]) {
                    greatest = k;
                }
            }
            if (greatest == c) {
                members[c].limit++;
            } else {
                members[greatest].amount++;
            }
            remainders[greatest] = -1;
        }

        int runTicks(int ticks) {
            int acknowledged = 0;
            for (int i = 0; i < ticks && i < MOST_TICKS; i++) {
                acknowledged += takeAcknowledgements();
                findTimeouts();
                sendPackets();
                link.serve(tick);
                if (tick % 8 == 0) {
                    easePenalties();
                }
                tick++;
            }
            return acknowledged;
        }

        int takeAcknowledgements() {
            PacketRow onWay = link.onWay;
            int acknowledged = 0;
            int kept = 0;
            for (int i = 0; i < onWay.size; i++) {
                if (onWay.ticks[i] != tick) {
                    onWay.move(i, kept);
                    kept++;
                } else if (acknowledge(onWay.senders[i], onWay.serials[i], onWay.numbers[i])) {
                    acknowledged++;
                } else {
                    late++;
                }
            }
            onWay.size = kept;
            return acknowledged;
        }

        /** Answers false if the acknowledgement is late. */
        boolean acknowledge(int c, int serial, int number) {
            if (!has(c) || members[c].serial != serial) {
                return false;
            }
            Connection sender = members[c];
            int place = sender.flight.placeOf(number);
            if (place == NONE) {
                return false;
            }
            int trip = tick - sender.flight.ticks[place];
            if (place > 0) {
                boolean isNewLoss = sender.flight.numbers[0] >= sender.mark;
                sender.loseFirst(place);
                if (isNewLoss) {
                    sender.slowByGap();
                    punish(c, 2);
                }
            }
            sender.flight.removeFirst(1);
            sender.acknowledged++;
            sender.estimates.addSample(trip);
            sender.backoff = 0;
            if (place == 0) {
                sender.growCredit();
            }
            return true;
        }

        void findTimeouts() {
            for (int c = 0; c < CONNECTIONS; c++) {
                Connection one = members[c];
                if (one.isOpen && one.flight.size > 0 && one.flight.ticks[0] <= tick - one.timeout()) {
                    one.loseFirst(one.flight.size);
                    one.slowByTimeout();
                    punish(c, 4);
                }
            }
        }

        void punish(int c, int penalty) {
            for (int k = 0; k < CONNECTIONS; k++) {
                if (k == c) {
                    members[k].addPenalty(penalty);
                } else if (isKin(k, c)) {
                    members[k].addPenalty(penalty / 2);
                }
            }
        }

        void sendPackets() {
            int flights = allFlights();
            int first = Math.floorMod(tick, CONNECTIONS);
            boolean isSending = true;
            for (int round = 0; isSending && round <= MOST_BUDGET; round++) {
                isSending = false;
                for (int i = 0; i < CONNECTIONS; i++) {
                    int c = (first + i) % CONNECTIONS;
                    if (flights < budget && members[c].maySend()) {
                        send(c);
                        flights++;
                        isSending = true;
                    }
                }
            }
        }

        void send(int c) {
            Connection sender = members[c];
            int number = sender.sent;
            sender.sent++;
            sender.backlog--;
            sender.flight.add(number, tick);
            if (!link.enqueue(c, sender.serial, number)) {
                sender.dropped++;
            }
        }

        void easePenalties() {
            for (int k = 0; k < CONNECTIONS; k++) {
                members[k].penalty = Math.max(0, members[k].penalty - 1);
            }
        }
    }

    /** One connection; while it is not open, its other fields have no meaning. */
    private static final class Connection {
        boolean isOpen;
        int parent;
        int weight;
        int amount;
        int limit;
        int credit;
        int threshold;
        int backlog;
        int penalty;
        int backoff;
        int mark;
        int serial;
        /** Packets are numbered from 0, so that this is the number of the next one too. */
        int sent;
        int acknowledged;
        int lost;
        int gapLosses;
        int timeoutLosses;
        int dropped;
        final Estimates estimates = new Estimates();
        final Flight flight = new Flight();

        void copyFrom(Connection other) {
            isOpen = other.isOpen;
            parent = other.parent;
            weight = other.weight;
            amount = other.amount;
            limit = other.limit;
            credit = other.credit;
            threshold = other.threshold;
            backlog = other.backlog;
            penalty = other.penalty;
            backoff = other.backoff;
            mark = other.mark;
            serial = other.serial;
            sent = other.sent;
            acknowledged = other.acknowledged;
            lost = other.lost;
            gapLosses = other.gapLosses;
            timeoutLosses = other.timeoutLosses;
            dropped = other.dropped;
            estimates.copyFrom(other.estimates);
            flight.copyFrom(other.flight);
        }

        void becomeNew() {
            isOpen = true;
            backlog = 0;
            backoff = 0;
            mark = 0;
            sent = 0;
            acknowledged = 0;
            lost = 0;
            gapLosses = 0;
            timeoutLosses = 0;
            dropped = 0;
            flight.size = 0;
        }

        void becomeHead(int ownWeight) {
            becomeNew();
            parent = NONE;
            weight = ownWeight;
            credit = 32;
            threshold = 32;
            penalty = 0;
            serial = 0;
            estimates.forget();
        }

        void becomeChild(int parentNumber, Connection from, int ownWeight, int ownSerial) {
            becomeNew();
            parent = parentNumber;
            weight = ownWeight;
            credit = from.credit * ownWeight / Math.max(1, ownWeight + from.weight);
            from.credit -= credit;
            threshold = from.threshold;
            penalty = from.penalty;
            serial = ownSerial;
            estimates.inherit(from.estimates);
        }

        void takeBack(Connection closed) {
            credit = Math.min(MOST_CREDIT, credit + closed.credit);
            addBacklog(closed.backlog);
            penalty = Math.max(penalty, closed.penalty);
            estimates.merge(closed.estimates);
        }

        void addBacklog(int n) {
            backlog = Math.min(MOST_BACKLOG, backlog + n);
        }

        void addPenalty(int n) {
            penalty = Math.min(MOST_PENALTY, penalty + n);
        }

        int window() {
            if (limit < 1) {
                return 0;
            }
            return Math.max(1, Math.min(credit / 16, limit) * (16 - penalty) / 16);
        }

        int timeout() {
            return Math.min(MOST_TIMEOUT, estimates.baseTimeout() << backoff);
        }

        boolean maySend() {
            return isOpen && backlog > 0 && flight.size < window();
        }

        void loseFirst(int n) {
            flight.removeFirst(n);
            lost += n;
            addBacklog(n);
        }

        void slowByGap() {
            threshold = Math.max(2, credit / 32);
            credit = 16 * threshold;
            gapLosses++;
            mark = sent;
        }

        void slowByTimeout() {
            threshold = Math.max(2, credit / 32);
            credit = 16;
            backoff = Math.min(MOST_BACKOFF, backoff + 1);
            timeoutLosses++;
            mark = sent;
        }

        void growCredit() {
            int growth = credit / 16 < threshold ? 16 : Math.max(1, 256 / Math.max(1, credit));
            credit = Math.min(MOST_CREDIT, credit + growth);
        }

        int tell(int what) {
            switch (what) {
                case 0: return parent;
                case 1: return weight;
                case 2: return amount;
                case 3: return limit;
                case 4: return credit;
                case 5: return threshold;
                case 6: return window();
                case 7: return flight.size;
                case 8: return backlog;
                case 9: return penalty;
                case 10: return backoff;
                case 11: return timeout();
                case 12: return estimates.isKnown ? estimates.s : NONE;
                case 13: return estimates.isKnown ? (int) estimates.v : NONE;
                case 14: return estimates.samples;
                case 15: return sent;
                case 16: return mark;
                default: return BAD;
            }
        }

        int tally(int what) {
            switch (what) {
                case 0: return sent;
                case 1: return acknowledged;
                case 2: return lost;
                case 3: return gapLosses;
                case 4: return timeoutLosses;
                case 5: return dropped;
                default: return BAD;
            }
        }
    }

    /** The estimates of round trips: S in eighths and V in quarters of ticks. */
    private static final class Estimates {
        boolean isKnown;
        int s;
        long v;
        int samples;

        void copyFrom(Estimates other) {
            isKnown = other.isKnown;
            s = other.s;
            v = other.v;
            samples = other.samples;
        }

        void forget() {
            isKnown = false;
            s = 0;
            v = 0;
            samples = 0;
        }

        void inherit(Estimates parent) {
            isKnown = parent.isKnown;
            s = parent.s;
            v = Math.min(MOST_V, 2 * parent.v);
            samples = 0;
        }

        void merge(Estimates closed) {
            if (closed.samples == 0) {
                return;
            }
            if (samples == 0) {
                copyFrom(closed);
                return;
            }
            int all = Math.max(1, samples + closed.samples);
            s = (samples * s + closed.samples * closed.s) / all;
            v = (samples * v + closed.samples * closed.v) / all;
            samples = Math.min(MOST_SAMPLES, all);
        }

        void addSample(int trip) {
            if (samples == 0) {
                isKnown = true;
                s = 8 * trip;
                v = 2 * trip;
            } else {
                int d = trip - s / 8;
                s += d;
                v += Math.abs(d) - v / 4;
            }
            samples = Math.min(MOST_SAMPLES, samples + 1);
        }

        /** The timeout without backoff; cut at its greatest value here, so that the backoff can't overflow it. */
        int baseTimeout() {
            if (!isKnown) {
                return 10;
            }
            return (int) Math.min(MOST_TIMEOUT, Math.max(2, s / 8 + v));
        }
    }

    /** The packets that were sent and neither acknowledged nor found lost, in the order of their numbers. */
    private static final class Flight {
        final int[] numbers = new int[MOST_FLIGHT];
        final int[] ticks = new int[MOST_FLIGHT];
        int size;

        void copyFrom(Flight other) {
            System.arraycopy(other.numbers, 0, numbers, 0, other.size);
            System.arraycopy(other.ticks, 0, ticks, 0, other.size);
            size = other.size;
        }

        int placeOf(int number) {
            for (int i = 0; i < size; i++) {
                if (numbers[i] == number) {
                    return i;
                }
            }
            return NONE;
        }

        void add(int number, int tick) {
            if (size < MOST_FLIGHT) {
                numbers[size] = number;
                ticks[size] = tick;
                size++;
            }
        }

        void removeFirst(int n) {
            int gone = Math.min(n, size);
            System.arraycopy(numbers, gone, numbers, 0, size - gone);
            System.arraycopy(ticks, gone, ticks, 0, size - gone);
            size -= gone;
        }
    }

    /** The link: its properties, its queue, and the acknowledgements on their way in the order of their service. */
    private static final class Link {
        int capacity = 20;
        int rate = 2;
        int delay = 5;
        final PacketRow queue = new PacketRow(MOST_CAPACITY);
        final PacketRow onWay = new PacketRow(MOST_ON_WAY);

        static int most(int what) {
            switch (what) {
                case 0: return MOST_CAPACITY;
                case 1: return MOST_RATE;
                case 2: return MOST_DELAY;
                default: return 0;
            }
        }

        void copyFrom(Link other) {
            capacity = other.capacity;
            rate = other.rate;
            delay = other.delay;
            queue.copyFrom(other.queue);
            onWay.copyFrom(other.onWay);
        }

        void becomeEmpty() {
            queue.size = 0;
            onWay.size = 0;
        }

        int change(int what, int v) {
            int before;
            if (what == 0) {
                before = capacity;
                capacity = v;
            } else if (what == 1) {
                before = rate;
                rate = v;
            } else {
                before = delay;
                delay = v;
            }
            return before;
        }

        /** Answers false if the packet is dropped. */
        boolean enqueue(int sender, int serial, int number) {
            if (queue.size >= capacity) {
                return false;
            }
            queue.add(sender, serial, number, 0);
            return true;
        }

        void serve(int tick) {
            int served = Math.min(rate, queue.size);
            for (int i = 0; i < served; i++) {
                onWay.add(queue.senders[i], queue.serials[i], queue.numbers[i], tick + delay);
            }
            queue.removeFirst(served);
        }
    }

    /** Packets in a row, each with a tick, which has a meaning only for those whose acknowledgement is on its way. */
    private static final class PacketRow {
        final int[] senders;
        final int[] serials;
        final int[] numbers;
        final int[] ticks;
        int size;

        PacketRow(int most) {
            int length = Math.max(0, most);
            senders = new int[length];
            serials = new int[length];
            numbers = new int[length];
            ticks = new int[length];
        }

        void copyFrom(PacketRow other) {
            int copied = Math.min(other.size, senders.length);
            System.arraycopy(other.senders, 0, senders, 0, copied);
            System.arraycopy(other.serials, 0, serials, 0, copied);
            System.arraycopy(other.numbers, 0, numbers, 0, copied);
            System.arraycopy(other.ticks, 0, ticks, 0, copied);
            size = copied;
        }

        void add(int sender, int serial, int number, int tick) {
            if (size < senders.length) {
                senders[size] = sender;
                serials[size] = serial;
                numbers[size] = number;
                ticks[size] = tick;
                size++;
            }
        }

        /** Both places are within the row, and the new one is not behind the old one. */
        void move(int from, int to) {
            if (to >= 0 && to < from && from < size) {
                senders[to] = senders[from];
                serials[to] = serials[from];
                numbers[to] = numbers[from];
                ticks[to] = ticks[from];
            }
        }

        void removeFirst(int n) {
            int gone = Math.min(n, size);
            for (int i = gone; i < size; i++) {
                move(i, i - gone);
            }
            size -= gone;
        }
    }

    /** The remembered states, the oldest first; the objects of dropped ones are used again. */
    private static final class History {
        final Family[] states = new Family[MOST_STATES];
        int size;

        void record(Family now) {
            if (size >= MOST_STATES) {
                dropOldest();
            }
            if (states[size] == null) {
                states[size] = new Family();
            }
            states[size].copyFrom(now);
            size++;
        }

        void dropOldest() {
            Family oldest = states[0];
            for (int i = 1; i < MOST_STATES; i++) {
                states[i - 1] = states[i];
            }
            states[MOST_STATES - 1] = oldest;
            size = MOST_STATES - 1;
        }

        /** Answers false if no state is remembered. */
        boolean restore(Family now) {
            if (size < 1 || states[size - 1] == null) {
                return false;
            }
            size--;
            now.copyFrom(states[size]);
            return true;
        }
    }

    /** The text buffer, and what the latest reading of it found: a family or a fault. */
    private static final class FamilyText {
        static final int AFTER_OPENING = 0;
        static final int AFTER_WEIGHT = 1;
        static final int AFTER_CLOSING = 2;

        final int[] bytes = new int[MOST_BYTES];
        int size;
        final int[] weights = new int[CONNECTIONS];
        final int[] parents = new int[CONNECTIONS];
        int members;
        int faultKind = NONE;
        int faultPlace;
        /** Used while the text is read: whose children stand in each open parenthesis, and what came last. */
        final int[] owners = new int[MOST_NESTING];
        int nesting;
        int place;

        boolean append(int b) {
            if (size >= MOST_BYTES) {
                return false;
            }
            bytes[size] = b;
            size++;
            return true;
        }

        void read() {
            members = 0;
            nesting = 0;
            place = AFTER_OPENING;
            faultKind = NONE;
            for (int i = 0; i < size; i++) {
                faultKind = readByte(bytes[i]);
                if (faultKind != NONE) {
                    faultPlace = i;
                    return;
                }
            }
            if (members == 0 || nesting > 0) {
                faultKind = 1;
                faultPlace = size;
            }
        }

        /** Answers the kind of the fault that the byte is, or NONE. */
        int readByte(int b) {
            if (b == ' ') {
                return NONE;
            }
            if (b >= '0' && b <= '9') {
                return readWeight(b - '0');
            }
            if (b == '(') {
                return readOpening();
            }
            return b == ')' ? readClosing() : 1;
        }

        int readWeight(int weight) {
            if (members > 0 && nesting == 0) {
                return 1;
            }
            if (members >= CONNECTIONS) {
                return 3;
            }
            if (weight == 0) {
                return 2;
            }
            weights[members] = weight;
            parents[members] = nesting > 0 ? owners[nesting - 1] : NONE;
            members++;
            place = AFTER_WEIGHT;
            return NONE;
        }

        int readOpening() {
            if (place != AFTER_WEIGHT) {
                return 1;
            }
            if (nesting >= MOST_NESTING) {
                return 4;
            }
            owners[nesting] = members - 1;
            nesting++;
            place = AFTER_OPENING;
            return NONE;
        }

        int readClosing() {
            if (nesting == 0 || place == AFTER_OPENING) {
                return 1;
            }
            nesting--;
            place = AFTER_CLOSING;
            return NONE;
        }
    }
}
