/**
 * Wires on a chip that may be dug up by their neighbors for a price.
 *
 * A chip (all that undo brings back) is kept six times: as it is, as it is tried out, and four
 * times as it was. All of them are made by the constructor and used again, so no call makes an
 * object.
 */
public final class WireDigs {
    public static final int INVALID_ARGUMENT = -1000001;
    public static final int NOT_POSSIBLE = -1000002;
    public static final int LIMIT_REACHED = -1000003;
    public static final int NOT_FOUND = -1000004;

    private static final int SIDE = 9;
    private static final int PLACES = 81;
    private static final int CELLS = 162;
    private static final int WAYS = 3;

    private static final int NETS = 6;
    private static final int CLAIMS = 12;
    private static final int STATES = 4;
    private static final int CHARACTERS = 60;
    private static final int PLANNED = 3;

    private static final int SETTINGS = 4;
    private static final int VIA = 0;
    private static final int PRICE = 1;
    private static final int RATE = 2;
    private static final int PATIENCE = 3;
    private static final int[] LEAST = {1, 0, 0, 1};
    private static final int[] MOST = {20, 50, 50, 20};

    private static final int MOST_STUBBORN = 9;
    private static final int MOST_GIVEN = 9999;
    private static final int MOST_COINS = 100000;
    private static final int MOST_PASSED = 50;
    private static final int MOST_ACTS = 100000;

    /** Owners of cells: below NETS it is the net of a wire, from PIN on the net of a pin. */
    private static final int FREE = -1;
    private static final int PIN = 10;
    private static final int BLOCKED = 20;

    private static final int OPEN = 0;
    private static final int APPEALED = 1;
    private static final int SETTLED = 2;

    private static final int WELL = 0;
    private static final int NO_FORM = 1;
    private static final int NO_SUCH = 2;
    private static final int NOT_NOW = 3;

    private static final int NONE = -1;
    private static final int CLOSED = -1;
    private static final int FAR = 1000000;
    private static final int MOST_ROUNDS = 1000000;

    /** The orders of three, the first one first; those of two and of one are among their begins. */
    private static final int[] ORDERS = {0, 1, 2, 0, 2, 1, 1, 0, 2, 1, 2, 0, 2, 0, 1, 2, 1, 0};
    private static final int ORDER_ROWS = 6;

    private final Router router;
    private final Script script;
    /** The latest state is the last one; those that are no states of the history are spare. */
    private final Chip[] past;
    private final int[] waiting;
    private Chip now;
    private Chip trial;
    private int states;

    public WireDigs() {
        router = new Router();
        script = new Script();
        past = new Chip[STATES];
        for (int i = 0; i < STATES; i++) {
            past[i] = new Chip();
        }
        waiting = new int[PLANNED];
        now = new Chip();
        trial = new Chip();
        states = 0;
    }

    // ---- settings, places, nets

    public int set(int what, int value) {
        return keepTrial(freshTrial().changeSetting(what, value));
    }

    public int block(int place, int is) {
        return keepTrial(freshTrial().changeBlocked(place, is));
    }

    public int net(int pin0, int pin1, int pin2, int stubbornness, int purse) {
        return keepTrial(freshTrial().addNet(pin0, pin1, pin2, stubbornness, purse));
    }

    public int give(int net, int coins) {
        return keepTrial(freshTrial().addCoins(net, coins));
    }

    public int netOf(int net, int what) {
        return now.factOfNet(net, what);
    }

    public int cellOf(int cell) {
        if (cell < 0 || cell >= CELLS) {
            return INVALID_ARGUMENT;
        }
        int owner = now.owners[cell];
        return owner == FREE ? NOT_FOUND : owner;
    }

    public int wireAt(int net, int index) {
        if (!now.hasNet(net) || index < 0) {
            return INVALID_ARGUMENT;
        }
        return now.cellOfWire(net, index);
    }

    // ---- acts

    public int lay(int net) {
        return keepTrial(freshTrial().layNet(router, net));
    }

    public int dig(int net) {
        return keepTrial(freshTrial().digForNet(router, net));
    }

    public int rip(int net) {
        return keepTrial(freshTrial().ripNet(net));
    }

    public int appeal(int claim) {
        return keepTrial(freshTrial().appealClaim(claim));
    }

    public int hear() {
        return keepTrial(freshTrial().hearFirst());
    }

    public int pass(int acts) {
        return keepTrial(freshTrial().letPass(acts));
    }

    // ---- routes

    public int cost(int net, int digs) {
        int found = findRoute(net, digs);
        return found < 0 ? found : router.cost;
    }

    public int price(int net) {
        int found = findRoute(net, 1);
        return found < 0 ? found : router.price;
    }

    public int victims(int net) {
        int found = findRoute(net, 1);
        return found < 0 ? found : router.victims;
    }

    public int routeAt(int net, int digs, int index) {
        if (index < 0) {
            return INVALID_ARGUMENT;
        }
        int found = findRoute(net, digs);
        return found < 0 ? found : router.cellAt(index);
    }

    public int bestOrder(int index) {
        if (index < -1) {
            return INVALID_ARGUMENT;
        }
        int size = gatherWaiting();
        int most = -1;
        int bestRow = 0;
        for (int row = 0; row < ORDER_ROWS; row++) {
            int joined = joinedByRow(row, size);
            if (joined > most) {
                most = joined;
                bestRow = row;
            }
        }
        if (index == -1) {
            return most;
        }
        return index < size ? waiting[ORDERS[PLANNED * bestRow + index]] : NOT_FOUND;
    }

    // ---- claims

    public int claimOf(int claim, int what) {
        return now.factOfClaim(claim, what);
    }

    public int docketAt(int index) {
        if (index < 0) {
            return INVALID_ARGUMENT;
        }
        int claim = now.appealAt(index);
        return claim == NONE ? NOT_FOUND : claim;
    }

    public int wronged() {
        return now.wrongedNets();
    }

    public int count(int what) {
        if (what == 10) {
            return states;
        }
        if (what == 11) {
            return script.length;
        }
        return now.countOf(what);
    }

    public int undo() {
        if (states == 0) {
            return NOT_POSSIBLE;
        }
        Chip spare = now;
        now = past[STATES - 1];
        for (int i = STATES - 1; i > 0; i--) {
            past[i] = past[i - 1];
        }
        past[0] = spare;
        states--;
        return states;
    }

    // ---- texts

    public int type(int character) {
        return script.append(character);
    }

    public int clearText() {
        int had = script.length;
        script.length = 0;
        return had;
    }

    public int fault(int what) {
        if (what < 0 || what > 1) {
            return INVALID_ARGUMENT;
        }
        script.runOn(freshTrial(), router);
        if (script.reason == WELL) {
            return NOT_FOUND;
        }
        return what == 0 ? script.position : script.reason;
    }

    public int play() {
        script.runOn(freshTrial(), router);
        return keepTrial(script.reason == WELL ? script.orders : NOT_POSSIBLE);
    }

    // ---- helpers

    private Chip freshTrial() {
        trial.copyFrom(now);
        return trial;
    }

    /** Makes the trial the present state, unless the answer to the change is an error. */
    private int keepTrial(int answer) {
        if (answer < 0) {
            return answer;
        }
        Chip spare = past[0];
        for (int i = 0; i < STATES - 1; i++) {
            past[i] = past[i + 1];
        }
        past[STATES - 1] = now;
        now = trial;
        trial = spare;
        states = Math.min(states + 1, STATES);
        return answer;
    }

    private int findRoute(int net, int digs) {
        if (!now.hasNet(net) || digs < 0 || digs > 1) {
            return INVALID_ARGUMENT;
        }
        if (now.nets[net].joined) {
            return NOT_POSSIBLE;
        }
        return router.find(now, net, digs == 1) ? 0 : NOT_FOUND;
    }

    private int gatherWaiting() {
        int size = 0;
        for (int net = 0; net < now.netCount && net < NETS && size < PLANNED; net++) {
            if (!now.nets[net].joined) {
                waiting[size] = net;
                size++;
            }
        }
        return size;
    }

    /** Returns how many nets an order joins, or NONE if the row is no order of so many nets. */
    private int joinedByRow(int row, int size) {
        Chip chip = freshTrial();
        int joined = 0;
        for (int i = 0; i < size; i++) {
            int which = ORDERS[PLANNED * row + i];
            if (which >= size) {
                return NONE;
            }
            if (chip.layNet(router, waiting[which]) >= 0) {
                joined++;
            }
        }
        return joined;
    }

    private static final class Net {
        int pin0;
        int pin1;
        int pin2;
        int stubbornness;
        int purse;
        boolean joined;
        int timesDug;
        int paid;
        int received;

        void copyFrom(Net other) {
            pin0 = other.pin0;
            pin1 = other.pin1;
            pin2 = other.pin2;
            stubbornness = other.stubbornness;
            purse = other.purse;
            joined = other.joined;
            timesDug = other.timesDug;
            paid = other.paid;
            received = other.received;
        }

        void spend(int coins) {
            purse -= coins;
            paid += coins;
        }

        void receive(int coins) {
            purse += coins;
            received += coins;
        }
    }

    private static final class Claim {
        int holder;
        int digger;
        int cells;
        int vias;
        int paid;
        int state;
        int dugAt;

        void copyFrom(Claim other) {
            holder = other.holder;
            digger = other.digger;
            cells = other.cells;
            vias = other.vias;
            paid = other.paid;
            state = other.state;
            dugAt = other.dugAt;
        }
    }

    /** All that undo brings back, and what can be done to it. */
    private static final class Chip {
        final int[] settings;
        final int[] owners;
        /** For each cell the set of the claims whose lost wire had it. */
        final int[] lostBy;
        final Net[] nets;
        final Claim[] claims;
        int netCount;
        int claimCount;
        int acts;

        Chip() {
            settings = new int[] {3, 4, 6, 6};
            owners = new int[CELLS];
            for (int cell = 0; cell < CELLS; cell++) {
                owners[cell] = FREE;
            }
            lostBy = new int[CELLS];
            nets = new Net[NETS];
            for (int i = 0; i < NETS; i++) {
                nets[i] = new Net();
            }
            claims = new Claim[CLAIMS];
            for (int i = 0; i < CLAIMS; i++) {
                claims[i] = new Claim();
            }
        }

        void copyFrom(Chip other) {
            System.arraycopy(other.settings, 0, settings, 0, SETTINGS);
            System.arraycopy(other.owners, 0, owners, 0, CELLS);
            System.arraycopy(other.lostBy, 0, lostBy, 0, CELLS);
            netCount = other.netCount;
            for (int i = 0; i < netCount && i < NETS; i++) {
                nets[i].copyFrom(other.nets[i]);
            }
            claimCount = other.claimCount;
            for (int i = 0; i < claimCount && i < CLAIMS; i++) {
                claims[i].copyFrom(other.claims[i]);
            }
            acts = other.acts;
        }

        boolean hasNet(int number) {
            return number >= 0 && number < netCount && number < NETS;
        }

        boolean hasClaim(int number) {
            return number >= 0 && number < claimCount && number < CLAIMS;
        }

        // ---- settings, places, nets

        int changeSetting(int what, int value) {
            if (what < 0 || what >= SETTINGS || value < LEAST[what] || value > MOST[what]) {
                return INVALID_ARGUMENT;
            }
            int was = settings[what];
            settings[what] = value;
            return was;
        }

        int changeBlocked(int place, int is) {
            if (place < 0 || place >= PLACES || is < 0 || is > 1) {
                return INVALID_ARGUMENT;
            }
            int before = is == 1 ? FREE : BLOCKED;
            int after = is == 1 ? BLOCKED : FREE;
            if (owners[place] != before || owners[place + PLACES] != before) {
                return NOT_POSSIBLE;
            }
            owners[place] = after;
            owners[place + PLACES] = after;
            return blockedPlaces();
        }

        int addNet(int pin0, int pin1, int pin2, int stubbornness, int purse) {
            if (!isPlace(pin0) || !isPlace(pin1) || (pin2 != NONE && !isPlace(pin2))) {
                return INVALID_ARGUMENT;
            }
            if (pin0 == pin1 || pin0 == pin2 || pin1 == pin2) {
                return INVALID_ARGUMENT;
            }
            if (stubbornness < 0 || stubbornness > MOST_STUBBORN || purse < 0 || purse > MOST_GIVEN) {
                return INVALID_ARGUMENT;
            }
            if (!isFreePlace(pin0) || !isFreePlace(pin1) || (pin2 != NONE && !isFreePlace(pin2))) {
                return NOT_POSSIBLE;
            }
            if (netCount >= NETS) {
                return LIMIT_REACHED;
            }
            int number = netCount;
            netCount++;
            setPin(pin0, number);
            setPin(pin1, number);
            setPin(pin2, number);
            Net net = nets[number];
            net.pin0 = pin0;
            net.pin1 = pin1;
            net.pin2 = pin2;
            net.stubbornness = stubbornness;
            net.purse = purse;
            // The object may have been used for a net that was undone.
            net.joined = false;
            net.timesDug = 0;
            net.paid = 0;
            net.received = 0;
            return number;
        }

        private static boolean isPlace(int place) {
            return place >= 0 && place < PLACES;
        }

        private boolean isFreePlace(int place) {
            return isPlace(place) && owners[place] == FREE && owners[place + PLACES] == FREE;
        }

        private void setPin(int place, int number) {
            if (isPlace(place)) {
                owners[place] = PIN + number;
                owners[place + PLACES] = PIN + number;
            }
        }

        int addCoins(int number, int coins) {
            if (!hasNet(number) || coins < 1 || coins > MOST_GIVEN) {
                return INVALID_ARGUMENT;
            }
            Net net = nets[number];
            if (net.purse + coins > MOST_COINS) {
                return LIMIT_REACHED;
            }
            net.purse += coins;
            return net.purse;
        }

        int factOfNet(int number, int what) {
            if (!hasNet(number)) {
                return INVALID_ARGUMENT;
            }
            Net net = nets[number];
            switch (what) {
                case 0: return net.pin0;
                case 1: return net.pin1;
                case 2: return net.pin2 == NONE ? NOT_FOUND : net.pin2;
                case 3: return net.stubbornness;
                case 4: return net.purse;
                case 5: return net.joined ? 1 : 0;
                case 6: return cellsOwnedBy(number);
                case 7: return viasOf(number);
                case 8: return net.timesDug;
                case 9: return net.paid;
                case 10: return net.received;
                default: return INVALID_ARGUMENT;
            }
        }

        int cellOfWire(int number, int index) {
            int seen = 0;
            for (int cell = 0; cell < CELLS; cell++) {
                if (owners[cell] == number) {
                    if (seen == index) {
                        return cell;
                    }
                    seen++;
                }
            }
            return NOT_FOUND;
        }

        // ---- acts

        int layNet(Router router, int number) {
            if (!hasNet(number)) {
                return INVALID_ARGUMENT;
            }
            if (nets[number].joined || !router.find(this, number, false)) {
                return NOT_POSSIBLE;
            }
            takeRoute(router, number);
            acts++;
            return router.cost;
        }

        int digForNet(Router router, int number) {
            if (!hasNet(number)) {
                return INVALID_ARGUMENT;
            }
            Net digger = nets[number];
            if (digger.joined || !router.find(this, number, true) || digger.purse < router.price) {
                return NOT_POSSIBLE;
            }
            if (claimCount + Integer.bitCount(router.victims) > CLAIMS) {
                return LIMIT_REACHED;
            }
            // Counted ahead of the claims, so that the digging itself is none of their acts.
            acts++;
            digger.spend(router.price);
            for (int victim = 0; victim < NETS; victim++) {
                if ((router.victims >> victim & 1) == 1) {
                    addClaim(victim, number, router.owed[victim]);
                    nets[victim].receive(router.owed[victim]);
                    nets[victim].timesDug++;
                    loseWire(victim);
                }
            }
            takeRoute(router, number);
            return router.price;
        }

        private void takeRoute(Router router, int number) {
            for (int i = 0; i < router.length; i++) {
                int cell = router.cellAt(i);
                if (cell >= 0 && cell < CELLS && owners[cell] == FREE) {
                    owners[cell] = number;
                }
            }
            nets[number].joined = true;
        }

        private void addClaim(int holder, int digger, int coins) {
            if (claimCount >= CLAIMS) {
                return;
            }
            int number = claimCount;
            claimCount++;
            Claim claim = claims[number];
            claim.holder = holder;
            claim.digger = digger;
            claim.cells = cellsOwnedBy(holder);
            claim.vias = viasOf(holder);
            claim.paid = coins;
            claim.state = OPEN;
            claim.dugAt = acts;
            for (int cell = 0; cell < CELLS; cell++) {
                if (owners[cell] == holder) {
                    lostBy[cell] |= 1 << number;
                }
            }
        }

        private void loseWire(int number) {
            for (int cell = 0; cell < CELLS; cell++) {
                if (owners[cell] == number) {
                    owners[cell] = FREE;
                }
            }
            nets[number].joined = false;
        }

        int ripNet(int number) {
            if (!hasNet(number)) {
                return INVALID_ARGUMENT;
            }
            if (!nets[number].joined) {
                return NOT_POSSIBLE;
            }
            int had = cellsOwnedBy(number);
            loseWire(number);
            acts++;
            return had;
        }

        int appealClaim(int number) {
            if (!hasClaim(number)) {
                return INVALID_ARGUMENT;
            }
            Claim claim = claims[number];
            if (claim.state != OPEN || acts - claim.dugAt > settings[PATIENCE]) {
                return NOT_POSSIBLE;
            }
            claim.state = APPEALED;
            acts++;
            return appealsToHear();
        }

        int hearFirst() {
            int number = appealAt(0);
            if (!hasClaim(number)) {
                return NOT_POSSIBLE;
            }
            Claim claim = claims[number];
            if (!hasNet(claim.digger) || !hasNet(claim.holder)) {
                return NOT_POSSIBLE;
            }
            Net digger = nets[claim.digger];
            int due = lossOf(claim) - claim.paid;
            int payment = Math.max(0, Math.min(due, digger.purse));
            digger.spend(payment);
            nets[claim.holder].receive(payment);
            claim.paid += payment;
            claim.state = SETTLED;
            if (payment < due) {
                loseWire(claim.digger);
                giveBack(number, claim.holder);
            }
            acts++;
            return payment;
        }

        private void giveBack(int number, int holder) {
            if (nets[holder].joined || !isLostWireFree(number)) {
                return;
            }
            for (int cell = 0; cell < CELLS; cell++) {
                if ((lostBy[cell] >> number & 1) == 1) {
                    owners[cell] = holder;
                }
            }
            nets[holder].joined = true;
        }

        private boolean isLostWireFree(int number) {
            for (int cell = 0; cell < CELLS; cell++) {
                if ((lostBy[cell] >> number & 1) == 1 && owners[cell] != FREE) {
                    return false;
                }
            }
            return true;
        }

        int letPass(int passed) {
            if (passed < 1 || passed > MOST_PASSED) {
                return INVALID_ARGUMENT;
            }
            if (acts + passed > MOST_ACTS) {
                return LIMIT_REACHED;
            }
            acts += passed;
            return acts;
        }

        // ---- routes

        /** Returns what it costs a net to enter a cell besides the step or via, or CLOSED. */
        int tollOf(int cell, int number, boolean digging) {
            int owner = owners[cell];
            if (owner == FREE || owner == PIN + number) {
                return 0;
            }
            if (!digging || !hasNet(owner)) {
                return CLOSED;
            }
            return settings[PRICE] + nets[owner].stubbornness;
        }

        // ---- claims

        int factOfClaim(int number, int what) {
            if (!hasClaim(number)) {
                return INVALID_ARGUMENT;
            }
            Claim claim = claims[number];
            switch (what) {
                case 0: return claim.holder;
                case 1: return claim.digger;
                case 2: return claim.cells;
                case 3: return claim.vias;
                case 4: return claim.paid;
                case 5: return lossOf(claim);
                case 6: return claim.state;
                case 7: return acts - claim.dugAt;
                default: return INVALID_ARGUMENT;
            }
        }

        private int lossOf(Claim claim) {
            return settings[RATE] * claim.cells + settings[VIA] * claim.vias;
        }

        /** Returns the appeal that has so many others ahead of it, or NONE. */
        int appealAt(int index) {
            for (int number = 0; number < claimCount && number < CLAIMS; number++) {
                if (claims[number].state == APPEALED && appealsAheadOf(number) == index) {
                    return number;
                }
            }
            return NONE;
        }

        private int appealsAheadOf(int number) {
            int loss = lossOf(claims[number]);
            int ahead = 0;
            for (int other = 0; other < claimCount && other < CLAIMS; other++) {
                int otherLoss = lossOf(claims[other]);
                boolean before = otherLoss > loss || (otherLoss == loss && other < number);
                if (claims[other].state == APPEALED && before) {
                    ahead++;
                }
            }
            return ahead;
        }

        int wrongedNets() {
            int set = 0;
            for (int number = 0; number < claimCount && number < CLAIMS; number++) {
                Claim claim = claims[number];
                boolean underpaid = claim.paid < lossOf(claim);
                if (underpaid && hasNet(claim.holder) && !nets[claim.holder].joined) {
                    set |= 1 << claim.holder;
                }
            }
            return set;
        }

        // ---- counts

        int countOf(int what) {
            switch (what) {
                case 0: return netCount;
                case 1: return joinedNets();
                case 2: return blockedPlaces();
                case 3: return cellsOwnedBy(FREE);
                case 4: return claimCount;
                case 5: return appealsToHear();
                case 6: return acts;
                case 7: return coinsInPurses();
                case 8: return cellsOfWires();
                case 9: return crossings();
                case 20: return settings[VIA];
                case 21: return settings[PRICE];
                case 22: return settings[RATE];
                case 23: return settings[PATIENCE];
                default: return INVALID_ARGUMENT;
            }
        }

        private int cellsOwnedBy(int owner) {
            int cells = 0;
            for (int cell = 0; cell < CELLS; cell++) {
                if (owners[cell] == owner) {
                    cells++;
                }
            }
            return cells;
        }

        private int viasOf(int number) {
            int vias = 0;
            for (int place = 0; place < PLACES; place++) {
                if (owners[place] == number && owners[place + PLACES] == number) {
                    vias++;
                }
            }
            return vias;
        }

        private int blockedPlaces() {
            return cellsOwnedBy(BLOCKED) / 2;
        }

        private int joinedNets() {
            int joined = 0;
            for (int i = 0; i < netCount && i < NETS; i++) {
                if (nets[i].joined) {
                    joined++;
                }
            }
            return joined;
        }

        private int appealsToHear() {
            int appeals = 0;
            for (int i = 0; i < claimCount && i < CLAIMS; i++) {
                if (claims[i].state == APPEALED) {
                    appeals++;
                }
            }
            return appeals;
        }

        private int coinsInPurses() {
            int coins = 0;
            for (int i = 0; i < netCount && i < NETS; i++) {
                coins += nets[i].purse;
            }
            return coins;
        }

        private int cellsOfWires() {
            int cells = 0;
            for (int cell = 0; cell < CELLS; cell++) {
                if (hasNet(owners[cell])) {
                    cells++;
                }
            }
            return cells;
        }

        private int crossings() {
            int places = 0;
            for (int place = 0; place < PLACES; place++) {
                int below = owners[place];
                int above = owners[place + PLACES];
                if (hasNet(below) && hasNet(above) && below != above) {
                    places++;
                }
            }
            return places;
        }
    }

    /** Finds routes; the latest one stays in it until the next one is looked for. */
    private static final class Router {
        /** Three for each cell, in order by their numbers; NONE stands for the rim. */
        private final int[] neighbors;
        private final boolean[] joined;
        private final int[] tolls;
        private final int[] distances;
        private final boolean[] queued;
        private final int[] queue;
        private int queueFirst;
        private int queueSize;
        private int viaCost;
        private final int[] route;
        final int[] owed;
        int length;
        int cost;
        int price;
        int victims;

        Router() {
            neighbors = new int[WAYS * CELLS];
            for (int place = 0; place < PLACES; place++) {
                int below = WAYS * place;
                neighbors[below] = place % SIDE > 0 ? place - 1 : NONE;
                neighbors[below + 1] = place % SIDE < SIDE - 1 ? place + 1 : NONE;
                neighbors[below + 2] = place + PLACES;
                int above = below + WAYS * PLACES;
                neighbors[above] = place;
                neighbors[above + 1] = place >= SIDE ? place + PLACES - SIDE : NONE;
                neighbors[above + 2] = place < PLACES - SIDE ? place + PLACES + SIDE : NONE;
            }
            joined = new boolean[CELLS];
            tolls = new int[CELLS];
            distances = new int[CELLS];
            queued = new boolean[CELLS];
            queue = new int[CELLS];
            // No path has a cell twice, and no route has more than two paths.
            route = new int[2 * CELLS];
            owed = new int[NETS];
        }

        int cellAt(int index) {
            return index >= 0 && index < length && index < route.length ? route[index] : NOT_FOUND;
        }

        boolean find(Chip chip, int number, boolean digging) {
            length = 0;
            cost = 0;
            price = 0;
            victims = 0;
            for (int i = 0; i < NETS; i++) {
                owed[i] = 0;
            }
            if (!chip.hasNet(number)) {
                return false;
            }
            viaCost = chip.settings[VIA];
            for (int cell = 0; cell < CELLS; cell++) {
                joined[cell] = false;
                tolls[cell] = chip.tollOf(cell, number, digging);
            }
            Net net = chip.nets[number];
            joinPlace(net.pin0);
            return addPath(chip, number, net.pin1)
                && (net.pin2 == NONE || addPath(chip, number, net.pin2));
        }

        private void joinPlace(int place) {
            if (place >= 0 && place < PLACES) {
                joined[place] = true;
                joined[place + PLACES] = true;
            }
        }

        private boolean addPath(Chip chip, int number, int pin) {
            measure();
            int cell = nearerCell(pin);
            if (cell == NONE) {
                return false;
            }
            cost += distances[cell];
            int begin = length;
            for (int steps = 0; steps < CELLS && cell != NONE; steps++) {
                addCell(chip, cell);
                cell = nextCell(cell);
            }
            for (int i = begin; i < length; i++) {
                joinCell(chip, number, route[i]);
            }
            return true;
        }

        /** Finds what the cheapest way from each cell to what is joined costs. */
        private void measure() {
            queueFirst = 0;
            queueSize = 0;
            for (int cell = 0; cell < CELLS; cell++) {
                distances[cell] = FAR;
                queued[cell] = false;
            }
            for (int cell = 0; cell < CELLS; cell++) {
                if (joined[cell]) {
                    offer(cell, 0);
                }
            }
            for (int round = 0; round < MOST_ROUNDS && queueSize > 0; round++) {
                int cell = queue[queueFirst];
                queueFirst = (queueFirst + 1) % CELLS;
                queueSize--;
                queued[cell] = false;
                int entered = distances[cell] + tolls[cell];
                for (int way = 0; way < WAYS; way++) {
                    offer(neighbors[WAYS * cell + way], entered + moveCost(cell, way));
                }
            }
        }

        private void offer(int cell, int distance) {
            if (cell < 0 || tolls[cell] == CLOSED || distance >= distances[cell]) {
                return;
            }
            distances[cell] = distance;
            if (!queued[cell]) {
                queued[cell] = true;
                queue[(queueFirst + queueSize) % CELLS] = cell;
                queueSize++;
            }
        }

        private int moveCost(int cell, int way) {
            int via = cell < PLACES ? WAYS - 1 : 0;
            return way == via ? viaCost : 1;
        }

        private int nearerCell(int pin) {
            if (pin < 0 || pin >= PLACES) {
                return NONE;
            }
            int cell = distances[pin] <= distances[pin + PLACES] ? pin : pin + PLACES;
            return distances[cell] < FAR ? cell : NONE;
        }

        private int nextCell(int cell) {
            if (joined[cell]) {
                return NONE;
            }
            for (int way = 0; way < WAYS; way++) {
                int next = neighbors[WAYS * cell + way];
                if (next >= 0 && distances[next] < FAR
                        && distances[next] + tolls[next] + moveCost(cell, way) == distances[cell]) {
                    return next;
                }
            }
            return NONE;
        }

        private void addCell(Chip chip, int cell) {
            if (length >= route.length) {
                return;
            }
            route[length] = cell;
            length++;
            int owner = chip.owners[cell];
            if (chip.hasNet(owner)) {
                victims |= 1 << owner;
                owed[owner] += tolls[cell];
                price += tolls[cell];
            }
        }

        /** A cell that is joined has no toll any more: the second path does not pay for it again. */
        private void joinCell(Chip chip, int number, int cell) {
            joined[cell] = true;
            tolls[cell] = 0;
            if (chip.owners[cell] == PIN + number) {
                joinPlace(cell % PLACES);
            }
        }
    }

    /** The text, and what the latest run of its orders came to. */
    private static final class Script {
        private final int[] text;
        int length;
        /** After a run with a fault: where the order with the fault begins. */
        int position;
        int reason;
        int orders;

        Script() {
            text = new int[CHARACTERS];
        }

        int append(int character) {
            if (character < ' ' || character > '~') {
                return INVALID_ARGUMENT;
            }
            if (length >= CHARACTERS) {
                return LIMIT_REACHED;
            }
            text[length] = character;
            length++;
            return length;
        }

        void runOn(Chip chip, Router router) {
            position = 0;
            reason = WELL;
            orders = 0;
            for (int i = 0; i < CHARACTERS && position < length && reason == WELL; i++) {
                int end = endOfOrder(position);
                if (end == NONE) {
                    reason = NO_FORM;
                } else {
                    reason = doOrder(chip, router, characterAt(position), numberIn(position + 1, end));
                }
                if (reason == WELL) {
                    orders++;
                    position = end + 1;
                }
            }
        }

        /** Returns where the ";" of an order is, or NONE if the order is not of the form. */
        private int endOfOrder(int begin) {
            int letter = characterAt(begin);
            int end = begin + 1;
            if (letter != 'h') {
                if (!isLetterWithNumber(letter) || !isDigit(characterAt(end))) {
                    return NONE;
                }
                end += isDigit(characterAt(end + 1)) ? 2 : 1;
            }
            return characterAt(end) == ';' ? end : NONE;
        }

        private int characterAt(int index) {
            return index >= 0 && index < length && index < CHARACTERS ? text[index] : NONE;
        }

        private static boolean isLetterWithNumber(int letter) {
            return letter == 'l' || letter == 'd' || letter == 'r' || letter == 'a' || letter == 'w';
        }

        private static boolean isDigit(int character) {
            return character >= '0' && character <= '9';
        }

        private int numberIn(int begin, int end) {
            int number = 0;
            for (int i = begin; i < end; i++) {
                number = 10 * number + characterAt(i) - '0';
            }
            return number;
        }

        private static int doOrder(Chip chip, Router router, int letter, int number) {
            switch (letter) {
                case 'h': return reasonOf(true, chip.hearFirst());
                case 'w': return reasonOf(true, chip.letPass(number));
                case 'a': return reasonOf(chip.hasClaim(number), chip.appealClaim(number));
                case 'l': return reasonOf(chip.hasNet(number), chip.layNet(router, number));
                case 'd': return reasonOf(chip.hasNet(number), chip.digForNet(router, number));
                default: return reasonOf(chip.hasNet(number), chip.ripNet(number));
            }
        }

        private static int reasonOf(boolean isThere, int answer) {
            if (!isThere) {
                return NO_SUCH;
            }
            return answer < 0 ? NOT_NOW : WELL;
        }
    }
}
