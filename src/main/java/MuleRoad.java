import java.util.NoSuchElementException;

/** A road for mule trains; DOC.md numbers the promises that its public methods keep. */
public final class MuleRoad {
    public static final int NONE = -1;

    private static final int MOST_INNS = 6;
    private static final int MOST_TELLINGS = 60;
    private static final int MOST_TRAINS = 4;
    private static final int MULES = 3;
    private static final int MOST_PACKS = 100;
    private static final int MOST_WEIGHT = 60;
    private static final int LEAST_STRENGTH = 20;
    private static final int MOST_STRENGTH = 120;
    private static final int MOST_BARGAINS = 10;
    private static final int MOST_RULES = 20;
    private static final int MOST_TERMS = 4;
    private static final int MOST_DIGITS = 4;
    private static final int MOST_BYTES = 400;
    private static final int FED_BYTES = 20;
    private static final int LAST_HOUR = 9999;
    private static final int MOST_HOURS_AT_ONCE = 100;
    private static final int MOST_APART = 10;
    private static final int MOST_LOOKED_AT = 10;
    private static final int MOST_TIRED = 100;
    // No object is used for more calls than this, and a call moves one pack at most.
    private static final int MOST_MOVES = 512;
    private static final int FIRST_TRAIN_PLACE = 10;

    private static final int GLASS = 3;

    private static final int WAITS = 0;
    private static final int ON_MULE = 1;
    private static final int DELIVERED = 2;

    private static final int LEFT = 0;
    private static final int RIGHT = 1;
    private static final int TOP = 2;
    private static final int NOT_AT_ALL = 2;

    private static final int END = 0;
    private static final int BAD = 1;
    private static final int NUMBER = 2;
    private static final int KIND = 3;
    private static final int MEASURE = 4;
    private static final int AND = 5;
    private static final int REL = 6;
    private static final int COLON = 7;
    private static final int SEMICOLON = 8;
    private static final int MINUS = 9;

    private static final int OF_WEIGHT = 0;
    private static final int OF_HOURS = 1;
    private static final int OF_HELD = 2;
    private static final int OF_KIND = 3;

    private static final int NO_TEXT = 1;
    private static final int TOO_MANY = 2;

    private final Road road = new Road();
    private final Train[] trains = new Train[MOST_TRAINS];
    private final Pack[] packs = new Pack[MOST_PACKS];
    private final Bargain[] bargains = new Bargain[MOST_BARGAINS];
    private final Moves moves = new Moves();
    private final Tape tape = new Tape();
    private final Parser parser = new Parser(tape);
    private final BestLoad bestLoad = new BestLoad();
    private int trainCount = 0;
    private int packCount = 0;
    private int bargainCount = 0;
    private int faultPlace = NONE;
    private int hour = 0;

    public MuleRoad() {
        // Made here once, so that texts with faults, told again and again, cost no room.
        for (int i = 0; i < MOST_BARGAINS; i++) {
            bargains[i] = new Bargain();
        }
    }

    public int inn(int hours, int climbs, boolean ledge) {
        return road.addInn(hours, climbs, ledge);
    }

    public int string(int inn, int one, int two, int three) {
        if (!road.hasInn(inn) || trainCount >= MOST_TRAINS) {
            return NONE;
        }
        if (!isStrength(one) || !isStrength(two) || !isStrength(three)) {
            return NONE;
        }
        trains[trainCount] = new Train(inn, one, two, three);
        trainCount++;
        return trainCount - 1;
    }

    public int snow(int leg, int from, int to) {
        return road.addTelling(leg, from, to, hour);
    }

    public int shut(int leg, int hour, int known) {
        if (!road.hasLeg(leg) || !isHour(hour) || known < 0 || known > this.hour) {
            return NONE;
        }
        return road.isShut(leg, hour, known) ? 1 : 0;
    }

    public int pack(int inn, int other, int kind, int weight) {
        if (!road.hasInn(inn) || !road.hasInn(other) || inn == other) {
            return NONE;
        }
        if (kind < 0 || kind > GLASS || weight < 1 || weight > MOST_WEIGHT || packCount >= MOST_PACKS) {
            return NONE;
        }
        packs[packCount] = new Pack(kind, weight, inn, other, hour);
        moves.add(packCount, hour, inn);
        packCount++;
        return packCount - 1;
    }

    public int lay(int string, int mule, int place, int pack) {
        Train train = trainAt(string);
        Pack laid = packAt(pack);
        if (train == null || laid == null || place < LEFT || place > TOP) {
            return -1;
        }
        Mule bearer = train.muleAt(mule);
        if (bearer == null) {
            return -1;
        }
        if (laid.state != WAITS || train.inn != laid.where) {
            return -2;
        }
        if (bearer.lame) {
            return -3;
        }
        if (bearer.load() + laid.weight > bearer.strength) {
            return -4;
        }
        if ((laid.kind == GLASS) != (place == TOP) || (place == TOP && bearer.top != NONE)) {
            return -5;
        }
        bearer.bear(place, pack, laid.weight);
        train.packs++;
        laid.liftOnto(string, mule, place);
        moves.add(pack, hour, FIRST_TRAIN_PLACE + string);
        return bearer.load();
    }

    public int down(int pack) {
        Pack borne = packAt(pack);
        if (borne == null) {
            return -1;
        }
        if (borne.state != ON_MULE) {
            return -2;
        }
        Train train = trainAt(borne.where);
        if (train == null || train.inn == NONE) {
            return -3;
        }
        Mule bearer = train.muleAt(borne.mule);
        if (bearer != null) {
            bearer.unload(borne.side, borne.weight);
        }
        train.packs--;
        borne.putAt(train.inn);
        moves.add(pack, hour, train.inn);
        if (train.inn != borne.target) {
            return 0;
        }
        borne.deliver(payFor(borne));
        return 1;
    }

    public int go(int string, boolean up) {
        Train train = trainAt(string);
        if (train == null) {
            return -1;
        }
        if (train.inn == NONE) {
            return -2;
        }
        int leg = up ? train.inn : train.inn - 1;
        if (!road.hasLeg(leg)) {
            return -3;
        }
        if (!train.isFit()) {
            return -4;
        }
        if (road.isShut(leg, hour, hour)) {
            return -5;
        }
        if (road.isLedge(leg) && isTaken(leg)) {
            return -6;
        }
        train.leave(leg, up, hour + road.hoursOf(leg));
        return train.arrival;
    }

    public int hours(int n) {
        if (n < 1 || n > MOST_HOURS_AT_ONCE || hour + n > LAST_HOUR) {
            return NONE;
        }
        for (int i = 0; i < n; i++) {
            passHour();
        }
        return hour;
    }

    public int best(int string, int mule) {
        return findBest(string, mule) ? bestLoad.load : NONE;
    }

    public int bestOf(int string, int mule, int pack) {
        return findBest(string, mule) ? bestLoad.sideOf(pack) : NONE;
    }

    public int feed(int a, int b, int c, int d, int e) {
        if (tape.size + FED_BYTES > MOST_BYTES) {
            return NONE;
        }
        tape.addNumber(a);
        tape.addNumber(b);
        tape.addNumber(c);
        tape.addNumber(d);
        tape.addNumber(e);
        return tape.size;
    }

    public int end(int n) {
        if (n < 0 || n > tape.size) {
            return NONE;
        }
        tape.size = n;
        return n;
    }

    public int bargain() {
        if (bargainCount >= MOST_BARGAINS) {
            return NONE;
        }
        int fault = parser.readInto(bargains[bargainCount]);
        tape.size = 0;
        faultPlace = parser.faultPlace;
        if (fault != 0) {
            return -2 - fault;
        }
        bargains[bargainCount].told = hour;
        bargainCount++;
        return bargainCount - 1;
    }

    public int place() {
        return faultPlace;
    }

    public int stringOf(int string, int what) {
        Train train = trainAt(string);
        if (train == null) {
            return NONE;
        }
        switch (what) {
            case 0: return train.inn;
            case 1: return train.leg;
            case 2: return train.leg == NONE ? NONE : train.up ? 1 : 0;
            case 3: return train.arrival;
            case 4: return train.packs;
            default: return NONE;
        }
    }

    public int muleOf(int string, int mule, int what) {
        Train train = trainAt(string);
        if (train == null) {
            return NONE;
        }
        Mule asked = train.muleAt(mule);
        if (asked == null) {
            return NONE;
        }
        switch (what) {
            case 0: return asked.strength;
            case 1: return asked.tired;
            case 2: return asked.lame ? 1 : 0;
            case 3: return asked.load();
            case 4: return asked.left;
            case 5: return asked.right;
            case 6: return asked.top;
            case 7: return asked.wentLame;
            default: return NONE;
        }
    }

    public int of(int pack, int what) {
        Pack asked = packAt(pack);
        if (asked == null) {
            return NONE;
        }
        switch (what) {
            case 0: return asked.kind;
            case 1: return asked.weight;
            case 2: return asked.target;
            case 3: return asked.state;
            case 4: return asked.where;
            case 5: return asked.came;
            case 6: return asked.held;
            case 7: return bargainIn(asked.came);
            default: return NONE;
        }
    }

    public int brought(int pack) throws NoSuchElementException {
        Pack asked = packAt(pack);
        if (asked == null || asked.state != DELIVERED) {
            throw new NoSuchElementException("no such pack was delivered");
        }
        return asked.pay;
    }

    public int was(int pack, int hour) {
        if (packAt(pack) == null || hour < 0 || hour > this.hour) {
            return NONE;
        }
        return moves.placeOf(pack, hour);
    }

    public int count(int what) {
        switch (what) {
            case 0: return hour;
            case 1: return road.inns;
            case 2: return trainCount;
            case 3: return packCount;
            case 4: return road.tellings;
            case 5: return bargainCount;
            case 6: return tape.size;
            case 7: return packsThatAre(WAITS);
            case 8: return packsThatAre(DELIVERED);
            case 9: return payOfAll();
            default: return NONE;
        }
    }

    private static boolean isHour(int n) {
        return n >= 0 && n <= LAST_HOUR;
    }

    private static boolean isStrength(int n) {
        return n >= LEAST_STRENGTH && n <= MOST_STRENGTH;
    }

    private Train trainAt(int n) {
        return n < 0 || n >= trainCount || n >= MOST_TRAINS ? null : trains[n];
    }

    private Pack packAt(int n) {
        return n < 0 || n >= packCount || n >= MOST_PACKS ? null : packs[n];
    }

    private boolean isTaken(int leg) {
        for (int i = 0; i < MOST_TRAINS; i++) {
            if (trains[i] != null && trains[i].leg == leg) {
                return true;
            }
        }
        return false;
    }

    private void passHour() {
        int shutLegs = road.shutLegs(hour);
        // Packs go first: what holds them are the strings as the hour began.
        if (shutLegs != 0) {
            holdPacks(shutLegs);
        }
        for (int i = 0; i < MOST_TRAINS; i++) {
            if (trains[i] != null) {
                trains[i].goThrough(hour, road.climbsOf(trains[i].leg));
            }
        }
        hour++;
    }

    private void holdPacks(int shutLegs) {
        for (int i = 0; i < packCount; i++) {
            Pack pack = packAt(i);
            if (pack != null) {
                int leg = pack.nextLeg(innOf(pack));
                if (leg != NONE && (shutLegs >> leg & 1) == 1) {
                    pack.held++;
                }
            }
        }
    }

    /** The inn at which a pack is that isn't delivered, or NONE. */
    private int innOf(Pack pack) {
        if (pack.state == WAITS) {
            return pack.where;
        }
        Train train = pack.state == ON_MULE ? trainAt(pack.where) : null;
        return train == null ? NONE : train.inn;
    }

    private boolean findBest(int string, int mule) {
        Train train = trainAt(string);
        if (train == null || train.inn == NONE) {
            return false;
        }
        Mule bearer = train.muleAt(mule);
        if (bearer == null) {
            return false;
        }
        bestLoad.clear();
        for (int i = 0; i < packCount; i++) {
            Pack pack = packAt(i);
            if (pack != null && pack.state == WAITS && pack.where == train.inn && pack.kind != GLASS) {
                bestLoad.add(i, pack.weight);
            }
        }
        bestLoad.findFor(bearer.strength);
        return true;
    }

    /** A bargain holds for its whole hour, so for packs too that came earlier in that hour. */
    private int bargainIn(int hour) {
        for (int i = bargainCount - 1; i >= 0; i--) {
            if (i < MOST_BARGAINS && bargains[i].told <= hour) {
                return i;
            }
        }
        return NONE;
    }

    private int payFor(Pack pack) {
        int number = bargainIn(pack.came);
        return number == NONE ? 0 : bargains[number].payFor(pack, hour - pack.came);
    }

    private int packsThatAre(int state) {
        int sum = 0;
        for (int i = 0; i < MOST_PACKS; i++) {
            if (packs[i] != null && packs[i].state == state) {
                sum++;
            }
        }
        return sum;
    }

    private int payOfAll() {
        int sum = 0;
        for (int i = 0; i < MOST_PACKS; i++) {
            if (packs[i] != null) {
                sum += packs[i].pay;
            }
        }
        return sum;
    }

    /** Inns, the legs between them, and the snow that was told of these. */
    private static final class Road {
        private final int[] legHours = new int[MOST_INNS];
        private final int[] legClimbs = new int[MOST_INNS];
        private final boolean[] legLedge = new boolean[MOST_INNS];
        private final int[] snowLeg = new int[MOST_TELLINGS];
        private final int[] snowFrom = new int[MOST_TELLINGS];
        private final int[] snowTo = new int[MOST_TELLINGS];
        private final int[] snowTold = new int[MOST_TELLINGS];
        private int inns = 0;
        private int tellings = 0;

        int addInn(int hours, int climbs, boolean ledge) {
            if (inns >= MOST_INNS) {
                return NONE;
            }
            if (inns == 0) {
                if (hours != 0 || climbs != 0 || ledge) {
                    return NONE;
                }
            } else {
                if (hours < 1 || hours > 9 || climbs < 0 || climbs > 9) {
                    return NONE;
                }
                legHours[inns - 1] = hours;
                legClimbs[inns - 1] = climbs;
                legLedge[inns - 1] = ledge;
            }
            inns++;
            return inns - 1;
        }

        int addTelling(int leg, int from, int to, int told) {
            if (!hasLeg(leg) || !isHour(from) || !isHour(to) || from > to || tellings >= MOST_TELLINGS) {
                return NONE;
            }
            snowLeg[tellings] = leg;
            snowFrom[tellings] = from;
            snowTo[tellings] = to;
            snowTold[tellings] = told;
            tellings++;
            return tellings - 1;
        }

        boolean hasInn(int n) {
            return n >= 0 && n < inns;
        }

        boolean hasLeg(int n) {
            return n >= 0 && n < inns - 1;
        }

        int hoursOf(int leg) {
            return hasLeg(leg) ? legHours[leg] : 0;
        }

        int climbsOf(int leg) {
            return hasLeg(leg) ? legClimbs[leg] : 0;
        }

        boolean isLedge(int leg) {
            return hasLeg(leg) && legLedge[leg];
        }

        boolean isShut(int leg, int hour, int known) {
            for (int i = 0; i < tellings && i < MOST_TELLINGS; i++) {
                if (snowLeg[i] == leg && snowTold[i] <= known && snowFrom[i] <= hour && hour <= snowTo[i]) {
                    return true;
                }
            }
            return false;
        }

        /** The legs that are shut in the hour at hand, a bit each; all tellings are known in it. */
        int shutLegs(int hour) {
            int legs = 0;
            for (int i = 0; i < tellings && i < MOST_TELLINGS; i++) {
                if (snowFrom[i] <= hour && hour <= snowTo[i]) {
                    legs |= 1 << snowLeg[i];
                }
            }
            return legs;
        }
    }

    private static final class Pack {
        private final int kind;
        private final int weight;
        private final int target;
        private final int came;
        private int state = WAITS;
        /** The inn of a pack that waits or was delivered, else its string. */
        private int where;
        private int mule = NONE;
        private int side = NONE;
        private int held = 0;
        private int pay = 0;

        Pack(int kind, int weight, int inn, int target, int came) {
            this.kind = kind;
            this.weight = weight;
            this.where = inn;
            this.target = target;
            this.came = came;
        }

        void liftOnto(int train, int mule, int side) {
            state = ON_MULE;
            where = train;
            this.mule = mule;
            this.side = side;
        }

        void putAt(int inn) {
            state = WAITS;
            where = inn;
            mule = NONE;
            side = NONE;
        }

        void deliver(int pay) {
            state = DELIVERED;
            this.pay = pay;
        }

        /** The leg on the way from an inn to the target; NONE without an inn, and at the target. */
        int nextLeg(int inn) {
            if (inn == NONE || inn == target) {
                return NONE;
            }
            return inn < target ? inn : inn - 1;
        }
    }

    private static final class Mule {
        private final int strength;
        private int tired = 0;
        private boolean lame = false;
        private int wentLame = NONE;
        private int left = 0;
        private int right = 0;
        private int top = NONE;
        private int topWeight = 0;

        Mule(int strength) {
            this.strength = strength;
        }

        int load() {
            return left + right + topWeight;
        }

        void bear(int side, int pack, int weight) {
            if (side == LEFT) {
                left += weight;
            } else if (side == RIGHT) {
                right += weight;
            } else {
                top = pack;
                topWeight = weight;
            }
        }

        void unload(int side, int weight) {
            if (side == LEFT) {
                left -= weight;
            } else if (side == RIGHT) {
                right -= weight;
            } else {
                top = NONE;
                topWeight = 0;
            }
        }

        boolean isFit() {
            return Math.abs(left - right) <= MOST_APART && (!lame || load() == 0);
        }

        void walk(int climbs, int hour) {
            if (lame) {
                return;
            }
            tired = Math.min(MOST_TIRED, tired + 2 + load() * climbs / 100);
            if (tired == MOST_TIRED) {
                lame = true;
                wentLame = hour;
            }
        }

        void rest() {
            tired = Math.max(0, tired - 5);
            if (tired == 0) {
                lame = false;
            }
        }
    }

    /** What the document calls a STRING. */
    private static final class Train {
        private final Mule[] mules = new Mule[MULES];
        private int inn;
        private int leg = NONE;
        private boolean up = false;
        private int arrival = NONE;
        private int packs = 0;

        Train(int inn, int one, int two, int three) {
            this.inn = inn;
            mules[0] = new Mule(one);
            mules[1] = new Mule(two);
            mules[2] = new Mule(three);
        }

        Mule muleAt(int n) {
            return n < 0 || n >= MULES ? null : mules[n];
        }

        boolean isFit() {
            for (int i = 0; i < MULES; i++) {
                if (!mules[i].isFit()) {
                    return false;
                }
            }
            return true;
        }

        void leave(int leg, boolean up, int arrival) {
            inn = NONE;
            this.leg = leg;
            this.up = up;
            this.arrival = arrival;
        }

        void goThrough(int hour, int climbs) {
            boolean rests = leg == NONE;
            for (int i = 0; i < MULES; i++) {
                if (rests) {
                    mules[i].rest();
                } else {
                    mules[i].walk(climbs, hour);
                }
            }
            if (!rests && arrival == hour + 1) {
                arrive();
            }
        }

        private void arrive() {
            inn = up ? leg + 1 : leg;
            leg = NONE;
            arrival = NONE;
        }
    }

    /** Where each pack came to, in the order of the calls. */
    private static final class Moves {
        private final int[] movedPack = new int[MOST_MOVES];
        private final int[] inHour = new int[MOST_MOVES];
        private final int[] toPlace = new int[MOST_MOVES];
        private int size = 0;

        void add(int pack, int hour, int place) {
            if (size >= MOST_MOVES) {
                return;
            }
            movedPack[size] = pack;
            inHour[size] = hour;
            toPlace[size] = place;
            size++;
        }

        int placeOf(int pack, int hour) {
            for (int i = size - 1; i >= 0; i--) {
                if (i < MOST_MOVES && movedPack[i] == pack && inHour[i] <= hour) {
                    return toPlace[i];
                }
            }
            return NONE;
        }
    }

    /** Finds the best load of a mule among the packs that were added. */
    private static final class BestLoad {
        private final int[] packs = new int[MOST_LOOKED_AT];
        private final int[] weights = new int[MOST_LOOKED_AT];
        /** Of the packs from each one on, the weights together. */
        private final int[] ahead = new int[MOST_LOOKED_AT + 1];
        private final int[] tried = new int[MOST_LOOKED_AT];
        private final int[] found = new int[MOST_LOOKED_AT];
        private int size = 0;
        private int strength = 0;
        private int load = 0;
        private int taken = 0;

        void clear() {
            size = 0;
        }

        void add(int pack, int weight) {
            if (size >= MOST_LOOKED_AT) {
                return;
            }
            packs[size] = pack;
            weights[size] = weight;
            size++;
        }

        void findFor(int strength) {
            this.strength = strength;
            load = 0;
            taken = 0;
            ahead[size] = 0;
            for (int i = size - 1; i >= 0; i--) {
                ahead[i] = ahead[i + 1] + weights[i];
                found[i] = NOT_AT_ALL;
            }
            look(this, 0, 0, 0, 0);
        }

        int sideOf(int pack) {
            for (int i = 0; i < size; i++) {
                if (packs[i] == pack) {
                    return found[i];
                }
            }
            return NONE;
        }

        private static void look(BestLoad b, int at, int left, int right, int taken) {
            if (b.isHopeless(at, left, right, taken)) {
                return;
            }
            if (at >= b.size) {
                b.keep(left + right, taken);
                return;
            }
            b.tried[at] = LEFT;
            look(b, at + 1, left + b.weights[at], right, taken + 1);
            // With both sides alike, what goes on by RIGHT has its mirror by LEFT, which comes first.
            if (left != right) {
                b.tried[at] = RIGHT;
                look(b, at + 1, left, right + b.weights[at], taken + 1);
            }
            b.tried[at] = NOT_AT_ALL;
            look(b, at + 1, left, right, taken);
        }

        /** Whether nothing that goes on so can be allowed and better than what was found. */
        private boolean isHopeless(int at, int left, int right, int taken) {
            int now = left + right;
            if (now > strength || Math.abs(left - right) > MOST_APART + ahead[at]) {
                return true;
            }
            int most = Math.min(strength, now + ahead[at]);
            if (most != load) {
                return most < load;
            }
            return (now < load ? taken + 1 : taken) >= this.taken;
        }

        private void keep(int load, int taken) {
            this.load = load;
            this.taken = taken;
            for (int i = 0; i < size; i++) {
                found[i] = tried[i];
            }
        }
    }

    private static final class Tape {
        private final int[] bytes = new int[MOST_BYTES];
        private int size = 0;

        void addNumber(int n) {
            addByte(n >>> 24);
            addByte(n >>> 16 & 255);
            addByte(n >>> 8 & 255);
            addByte(n & 255);
        }

        private void addByte(int b) {
            if (size < MOST_BYTES) {
                bytes[size] = b;
                size++;
            }
        }

        /** NONE behind the end. */
        int byteAt(int n) {
            return n < 0 || n >= size || n >= MOST_BYTES ? NONE : bytes[n];
        }
    }

    /** The tokens of a tape, the last of which is its end. */
    private static final class Tokens {
        private final Tape tape;
        private final int[] types = new int[MOST_BYTES + 1];
        private final int[] places = new int[MOST_BYTES + 1];
        private final int[] values = new int[MOST_BYTES + 1];
        private int size = 0;
        private int from = 0;
        private int behind = 0;

        Tokens(Tape tape) {
            this.tape = tape;
        }

        void cutTape() {
            size = 0;
            behind = 0;
            int type = BAD;
            for (int n = 0; n <= MOST_BYTES && type != END; n++) {
                type = cutToken();
            }
        }

        private int cutToken() {
            from = behind;
            while (from < tape.size && isBlank(tape.byteAt(from))) {
                from++;
            }
            int first = tape.byteAt(from);
            behind = first == NONE ? from : from + 1;
            if (first == NONE) {
                return add(END, 0);
            }
            if (isLetter(first)) {
                return cutWord();
            }
            return isDigit(first) ? cutNumber() : add(signType(first), first);
        }

        private int add(int type, int value) {
            if (size <= MOST_BYTES) {
                types[size] = type;
                places[size] = from;
                values[size] = value;
                size++;
            }
            return type;
        }

        private int cutWord() {
            while (behind < tape.size && isLetter(tape.byteAt(behind))) {
                behind++;
            }
            if (spells("and")) {
                return add(AND, 0);
            }
            int kind = kindSpelt();
            if (kind != NONE) {
                return add(KIND, kind);
            }
            int measure = measureSpelt();
            return add(measure == NONE ? BAD : MEASURE, measure);
        }

        private int kindSpelt() {
            return spells("salt") ? 0 : spells("wire") ? 1 : spells("mail") ? 2 : spells("glass") ? GLASS : NONE;
        }

        private int measureSpelt() {
            return spells("weight") ? OF_WEIGHT : spells("hours") ? OF_HOURS : spells("held") ? OF_HELD : NONE;
        }

        private boolean spells(String word) {
            if (behind - from != word.length()) {
                return false;
            }
            for (int i = 0; i < word.length(); i++) {
                if (tape.byteAt(from + i) != word.charAt(i)) {
                    return false;
                }
            }
            return true;
        }

        private int cutNumber() {
            while (behind < tape.size && isDigit(tape.byteAt(behind))) {
                behind++;
            }
            if (behind - from > MOST_DIGITS) {
                return add(BAD, 0);
            }
            int value = 0;
            for (int i = from; i < behind; i++) {
                value = value * 10 + tape.byteAt(i) - '0';
            }
            return add(NUMBER, value);
        }

        private static int signType(int sign) {
            switch (sign) {
                case '<':
                case '=':
                case '>': return REL;
                case ':': return COLON;
                case ';': return SEMICOLON;
                case '-': return MINUS;
                default: return BAD;
            }
        }

        private static boolean isBlank(int b) {
            return b == 32 || b == 10;
        }

        private static boolean isLetter(int b) {
            return b >= 'a' && b <= 'z';
        }

        private static boolean isDigit(int b) {
            return b >= '0' && b <= '9';
        }
    }

    /** Reads the tape as a bargain, up to its first fault. */
    private static final class Parser {
        private final Tokens tokens;
        private int at = 0;
        private int type = END;
        private int value = 0;
        private int fault = 0;
        private int faultPlace = NONE;

        Parser(Tape tape) {
            tokens = new Tokens(tape);
        }

        /** The kind of the fault, 0 without. */
        int readInto(Bargain bargain) {
            fault = 0;
            faultPlace = NONE;
            bargain.clear();
            tokens.cutTape();
            moveTo(0);
            boolean goesOn = true;
            for (int n = 0; goesOn && type != END && n <= MOST_RULES; n++) {
                if (type != COLON && !isTermAhead()) {
                    goesOn = fail(NO_TEXT);
                } else if (n == MOST_RULES) {
                    goesOn = fail(TOO_MANY);
                } else {
                    goesOn = readRule(bargain);
                }
            }
            return fault;
        }

        private void moveTo(int n) {
            // The end stays ahead for good, whatever is taken.
            if (n >= 0 && n < tokens.size && n <= MOST_BYTES) {
                at = n;
                type = tokens.types[n];
                value = tokens.values[n];
            }
        }

        private boolean fail(int kind) {
            fault = kind;
            faultPlace = at >= 0 && at <= MOST_BYTES ? tokens.places[at] : NONE;
            return false;
        }

        /** Goes beyond a token that must stand here. */
        private boolean take(int wanted) {
            if (type != wanted) {
                return fail(NO_TEXT);
            }
            moveTo(at + 1);
            return true;
        }

        private boolean isTermAhead() {
            return type == KIND || type == MEASURE;
        }

        private boolean readRule(Bargain bargain) {
            if (type != COLON && !readTerms(bargain)) {
                return false;
            }
            return take(COLON) && readAmount(bargain);
        }

        private boolean readTerms(Bargain bargain) {
            for (int n = 0; n < MOST_TERMS; n++) {
                if (!readTerm(bargain)) {
                    return false;
                }
                if (type != AND) {
                    return true;
                }
                moveTo(at + 1);
            }
            return fail(isTermAhead() ? TOO_MANY : NO_TEXT);
        }

        private boolean readTerm(Bargain bargain) {
            int first = value;
            if (type == KIND) {
                bargain.addTerm(OF_KIND, '=', first);
                return take(KIND);
            }
            if (!take(MEASURE)) {
                return false;
            }
            int rel = value;
            if (!take(REL)) {
                return false;
            }
            bargain.addTerm(first, rel, value);
            return take(NUMBER);
        }

        private boolean readAmount(Bargain bargain) {
            boolean less = type == MINUS;
            if (less) {
                moveTo(at + 1);
            }
            bargain.addRule(less ? -value : value);
            return take(NUMBER) && take(SEMICOLON);
        }
    }

    /** Rules, each of the terms behind those of the rule ahead of it. */
    private static final class Bargain {
        private final int[] termsUpTo = new int[MOST_RULES];
        private final int[] amounts = new int[MOST_RULES];
        private final int[] measures = new int[MOST_RULES * MOST_TERMS];
        private final int[] rels = new int[MOST_RULES * MOST_TERMS];
        private final int[] numbers = new int[MOST_RULES * MOST_TERMS];
        private int rules = 0;
        private int terms = 0;
        private int told = 0;

        void clear() {
            rules = 0;
            terms = 0;
        }

        void addTerm(int measure, int rel, int number) {
            if (terms >= MOST_RULES * MOST_TERMS) {
                return;
            }
            measures[terms] = measure;
            rels[terms] = rel;
            numbers[terms] = number;
            terms++;
        }

        /** Closes a rule of the terms that were added since the rule ahead. */
        void addRule(int amount) {
            if (rules >= MOST_RULES) {
                return;
            }
            termsUpTo[rules] = terms;
            amounts[rules] = amount;
            rules++;
        }

        int payFor(Pack pack, int hours) {
            int sum = 0;
            int term = 0;
            for (int rule = 0; rule < rules && rule < MOST_RULES; rule++) {
                if (holdAll(term, termsUpTo[rule], pack, hours)) {
                    sum += amounts[rule];
                }
                term = termsUpTo[rule];
            }
            return sum;
        }

        private boolean holdAll(int from, int behind, Pack pack, int hours) {
            for (int i = from; i < behind && i < MOST_RULES * MOST_TERMS; i++) {
                if (!holds(rels[i], measure(measures[i], pack, hours), numbers[i])) {
                    return false;
                }
            }
            return true;
        }

        private static int measure(int measure, Pack pack, int hours) {
            switch (measure) {
                case OF_WEIGHT: return pack.weight;
                case OF_HOURS: return hours;
                case OF_HELD: return pack.held;
                default: return pack.kind;
            }
        }

        private static boolean holds(int rel, int measured, int number) {
            if (rel == '<') {
                return measured < number;
            }
            return rel == '>' ? measured > number : measured == number;
        }
    }
}
