import java.util.NoSuchElementException;

/** Any more fares: a bus of two decks, its riders, and the conductor who goes among them. */
public final class TingDecks {
    public static final int NONE = -1;

    private static final int SPENT = -2;
    private static final int TAPE_MOST = 700;
    private static final int STOPS_MOST = 12;
    private static final int RIDE_MOST = 300;
    private static final int RIDERS_MOST = 12;
    private static final int PICKS_MOST = 4;
    private static final int SEATS = 10;
    private static final int PLACES = 20;
    private static final int HOLD_MOST = 60;
    private static final int FARE_MOST = 99;
    private static final int TAKE_MOST = 60;
    private static final int LATE_MOST = 99;
    private static final int DAYS_MOST = 60;
    private static final int ACTS_MOST = 40;
    private static final int COUNTED_MOST = 8;
    private static final int ORDERED_MOST = 10;
    private static final int CHANCY_MOST = 8;
    private static final int TENTHS_ALL = 10;
    private static final int AGAIN_MOST = 100;
    private static final int MINUTE = 60;

    // The settings of a bus, in the order in which count() tells them.
    private static final int STEP = 0;
    private static final int STAIR = 1;
    private static final int TAKE = 2;
    private static final int LATE = 3;
    private static final int FADE = 4;
    private static final int[] SETTING_FIRST = {1, 11, 5, 6, 10};
    private static final int[] SETTING_LEAST = {0, 0, 1, 0, 0};
    private static final int[] SETTING_MOST = {9, 99, 60, 99, 50};

    private static final int ACT_HOLD = 0;
    private static final int ACT_SIT = 1;
    private static final int ACT_OBEY = 2;

    // What stands in a rule's code: a number as itself, a value as -1 less its index, else these.
    private static final int VALUES = 8;
    private static final int VALUES_OF_FARE = 4;
    private static final int OP_OR = -11;
    private static final int OP_AND = -12;
    private static final int OP_NOT = -13;
    private static final int OP_LESS = -14;
    private static final int OP_SAME = -15;
    private static final int OP_PLUS = -16;
    private static final int OP_MINUS = -17;
    private static final int OP_TIMES = -18;
    private static final int OP_BY = -19;

    private final byte[] tape = new byte[TAPE_MOST];
    private final int[] status = new int[3];
    private Bus here = new Bus();
    private Bus draft = new Bus();
    private final State state = new State();
    private final State kept = new State();
    private final Parser parser = new Parser(tape, draft);
    private final Trip now = new Trip(here);
    private final Trip other = new Trip(here);
    private final Orders orders = new Orders();
    private final Chances chances = new Chances();
    private int tapeEnd;
    private int faultPlace = NONE;
    private boolean hasImage;
    private boolean nowStands;
    private boolean ordersStand;
    private boolean chancesStand;

    public TingDecks() {
        state.startOn(here);
    }

    public int feed(int a, int b, int c, int d, int e) {
        if (tapeEnd + 20 > TAPE_MOST) {
            return NONE;
        }
        putNumber(a);
        putNumber(b);
        putNumber(c);
        putNumber(d);
        putNumber(e);
        return tapeEnd;
    }

    public int bus(int n) throws IllegalArgumentException {
        if (n < 0 || n > tapeEnd) {
            throw new IllegalArgumentException("the tape has not so many bytes");
        }
        tapeEnd = 0;
        int fault = parser.readBus(n, draft);
        if (fault != 0) {
            faultPlace = parser.faultPlace;
            status[0]++;
            return fault;
        }
        faultPlace = NONE;
        Bus old = here;
        here = draft;
        draft = old;
        state.startOn(here);
        hasImage = false;
        stateChanged();
        return 0;
    }

    public int fault() {
        return faultPlace;
    }

    public int count(int what) throws NoSuchElementException {
        switch (what) {
            case 0: return here.stops;
            case 1: return here.riders;
            case 2: return here.picks;
            case 3: return state.rule;
            case 4: case 5: case 6: case 7: case 8: return here.setting[what - 4];
            case 9: return walked().taken;
            case 10: return netOf(walked().taken, state.allHolds());
            case 11: return walked().payers;
            case 12: return state.acts;
            case 13: return state.counted;
            case 14: return tapeEnd;
            case 15: case 16: case 17: return status[what - 15];
            default: throw new NoSuchElementException("no such count");
        }
    }

    public int stop(int stop, int what) throws NoSuchElementException {
        checkStop(stop);
        switch (what) {
            case 0: return walked().at[stop];
            case 1: return state.hold[stop];
            case 2: return here.ridersThere(stop);
            case 3: return here.ridersFrom(stop);
            default: throw new NoSuchElementException("no such thing of a stop");
        }
    }

    public int rider(int rider, int what) throws NoSuchElementException {
        checkRider(rider);
        switch (what) {
            case 0: return here.from[rider];
            case 1: return here.to[rider];
            case 2: return state.seat[rider] / SEATS;
            case 3: return state.seat[rider] % SEATS;
            case 4: return here.notes >> rider & 1;
            case 5: return here.tenths[rider];
            case 6: return walked().fare[rider];
            default: throw new NoSuchElementException("no such thing of a rider");
        }
    }

    public int paid(int rider, int what) throws NoSuchElementException {
        checkRider(rider);
        checkWhat(what, 2);
        Trip trip = walked();
        if (what == 0) {
            return trip.paidAt[rider];
        }
        if (what == 1) {
            return (trip.asked & ~trip.payers) >> rider & 1;
        }
        return trip.askedAs[rider];
    }

    public int way(int from, int to) throws NoSuchElementException {
        checkRider(from);
        checkRider(to);
        return here.secondsBetween(state.seat[from], state.seat[to]);
    }

    public int where(int second) throws IllegalArgumentException {
        Trip trip = walked();
        if (second < 0 || second > trip.at[here.stops - 1]) {
            throw new IllegalArgumentException("the bus does not ride then");
        }
        return trip.placeIn(second);
    }

    public int hold(int stop, int seconds) throws NoSuchElementException {
        checkStop(stop);
        if (seconds < 0 || seconds > HOLD_MOST) {
            status[1]++;
            return NONE;
        }
        int old = state.hold[stop];
        state.keepAct(ACT_HOLD, stop, old);
        state.hold[stop] = seconds;
        stateChanged();
        return old;
    }

    public int sit(int rider, int deck, int seat) throws NoSuchElementException {
        checkRider(rider);
        if (deck < 0 || deck > 1 || seat < 0 || seat >= SEATS
                || !isFree(rider, deck * SEATS + seat)) {
            status[1]++;
            return NONE;
        }
        int old = state.seat[rider];
        state.keepAct(ACT_SIT, rider, old);
        state.seat[rider] = deck * SEATS + seat;
        stateChanged();
        return old;
    }

    public boolean obey(int rule) {
        if (!isRuleOrNone(rule)) {
            status[1]++;
            return false;
        }
        state.keepAct(ACT_OBEY, 0, state.rule);
        state.rule = rule;
        stateChanged();
        return true;
    }

    public int undo() {
        if (state.acts == 0) {
            return NONE;
        }
        state.undoLast();
        stateChanged();
        return state.acts;
    }

    public int most(int what) throws NoSuchElementException {
        checkWhat(what, 1);
        if (here.riders > ORDERED_MOST) {
            return SPENT;
        }
        Orders all = ordered(walked());
        return what == 0 ? all.mostFares : all.mostSet;
    }

    public int compare(int rule) throws NoSuchElementException {
        if (!isRuleOrNone(rule)) {
            throw new NoSuchElementException("no such rule");
        }
        return netByRule(rule);
    }

    public int best() {
        int best = NONE;
        int most = netByRule(NONE);
        for (int rule = 0; rule < here.picks; rule++) {
            int net = netByRule(rule);
            if (net > most) {
                most = net;
                best = rule;
            }
        }
        return best;
    }

    public int bell(int stop, int what) throws NoSuchElementException {
        checkStop(stop);
        checkWhat(what, 1);
        other.prepare(here, state);
        other.moveBehind(stop, -state.hold[stop]);
        int elsewhere = state.allHolds() - state.hold[stop];
        int best = 0;
        int most = 0;
        for (int seconds = 0; seconds <= HOLD_MOST; seconds++) {
            other.travel();
            int net = netOf(other.taken, elsewhere + seconds);
            if (seconds == 0 || net > most) {
                most = net;
                best = seconds;
            }
            other.moveBehind(stop, 1);
        }
        return what == 0 ? best : most;
    }

    public int door(int what) throws NoSuchElementException {
        checkWhat(what, 2);
        int waited = 0;
        for (int rider = 0; rider < here.riders; rider++) {
            waited += here.takeOf(rider, here.setting[TAKE]);
        }
        if (what == 1) {
            return waited;
        }
        int fares = walked().faresOf(here.everybody());
        if (what == 0) {
            return netOf(fares, waited + state.allHolds());
        }
        return doorLine(fares, waited, walked().taken);
    }

    public int two(int what) throws NoSuchElementException {
        checkWhat(what, 1);
        other.prepare(here, state);
        int above = other.ridersAbove();
        other.comers = here.everybody() & ~above;
        other.travel();
        int both = other.taken;
        other.comers = above;
        other.start = SEATS;
        other.travel();
        both += other.taken;
        return what == 0 ? both : both - walked().taken;
    }

    public int flat() {
        int taken = walked().taken;
        other.prepare(here, state);
        for (int fare = 0; fare <= FARE_MOST; fare++) {
            // Even if all paid it would be too little, so there is nothing to try.
            if (fare * here.riders < taken) {
                continue;
            }
            other.fareOfAll(fare);
            other.travel();
            if (other.taken >= taken) {
                return fare;
            }
        }
        return NONE;
    }

    public int hops(int stops) throws IllegalArgumentException {
        if (stops < 0 || stops > STOPS_MOST) {
            throw new IllegalArgumentException("not 0 to 12 stops");
        }
        Trip trip = walked();
        int sum = 0;
        for (int rider = 0; rider < here.riders; rider++) {
            if ((trip.payers >> rider & 1) == 0 && here.hopsOf(rider) <= stops) {
                sum += trip.fare[rider];
            }
        }
        return sum;
    }

    public int again(int stop) throws NoSuchElementException {
        checkStop(stop);
        Trip trip = walked();
        int asked = here.ridersThere(stop) & trip.payers;
        int sum = 0;
        for (int rider = 0; rider < here.riders; rider++) {
            if ((asked >> rider & 1) != 0 && trip.paidAt[rider] <= trip.at[stop]) {
                int ago = stop - trip.stopIn(trip.paidAt[rider]);
                sum += Math.min(AGAIN_MOST, here.setting[FADE] * ago);
            }
        }
        return sum;
    }

    public int head(int stop, int deck, int heads) throws NoSuchElementException {
        checkStop(stop);
        if (state.counted >= COUNTED_MOST || deck < 0 || deck > 1
                || heads < 0 || heads > RIDERS_MOST) {
            status[2]++;
            return NONE;
        }
        state.keepCounted(here.ridersThere(stop), deck, heads);
        return state.counted;
    }

    public void forget() {
        state.counted = 0;
    }

    public int fits(int what) throws NoSuchElementException {
        checkWhat(what, 2);
        int above = walked().ridersAbove();
        int found = 0;
        int least = NONE;
        int everybody = here.everybody();
        int all = everybody;
        for (int moved = 0; moved <= everybody; moved++) {
            if (isAsCounted(above ^ moved)) {
                least = found == 0 ? moved : least;
                all &= moved;
                found++;
            }
        }
        if (what == 0) {
            return found;
        }
        if (what == 1) {
            return least;
        }
        return found == 0 ? 0 : all;
    }

    public int game(int stop, int rider, int what)
            throws NoSuchElementException, IllegalArgumentException {
        checkStop(stop);
        checkRider(rider);
        checkWhat(what, 1);
        if ((here.ridersThere(stop) >> rider & 1) == 0) {
            throw new IllegalArgumentException("he is not there");
        }
        int fare = walked().fare[rider];
        int others = here.ridersThere(stop) & ~(1 << rider);
        int above = walked().ridersAbove();
        int faresBelow = walked().faresOf(others & ~above);
        int faresAbove = walked().faresOf(others & above);
        int rests = 0;
        int first = NONE;
        for (int couple = 0; couple < 4; couple++) {
            if (restsCouple(couple / 2, couple % 2, fare, faresBelow, faresAbove)) {
                first = rests == 0 ? couple / 2 * SEATS + couple % 2 : first;
                rests++;
            }
        }
        return what == 0 ? rests : first;
    }

    public int week(int seed, int days, int what)
            throws NoSuchElementException, IllegalArgumentException {
        checkWhat(what, 2);
        if (days < 0 || days > DAYS_MOST) {
            throw new IllegalArgumentException("not 0 to 60 days");
        }
        other.prepare(here, state);
        int drawn = seed;
        int sum = 0;
        int most = 0;
        int least = 0;
        for (int day = 0; day < days; day++) {
            drawn = other.drawComers(drawn);
            other.travel();
            sum += other.taken;
            most = day == 0 ? other.taken : Math.max(most, other.taken);
            least = day == 0 ? other.taken : Math.min(least, other.taken);
        }
        if (what == 0) {
            return sum;
        }
        return what == 1 ? most : least;
    }

    public int walk(int what) throws NoSuchElementException {
        checkWhat(what, 5);
        Trip trip = walked();
        switch (what) {
            case 0: return trip.stairs;
            case 1: return trip.waits;
            case 2: return trip.goes;
            case 3: return trip.takes;
            case 4: return trip.lastPaidAt();
            default: return Integer.bitCount(trip.payers & trip.ridersAbove());
        }
    }

    public int ting(int i) throws NoSuchElementException {
        Trip trip = walked();
        if (i < 0 || i >= Integer.bitCount(trip.payers)) {
            throw new NoSuchElementException("not so many paid");
        }
        return trip.payerAt(i);
    }

    public int soonest(int riders) throws IllegalArgumentException {
        if ((riders & ~here.everybody()) != 0) {
            throw new IllegalArgumentException("there are no such riders");
        }
        if (here.riders > ORDERED_MOST) {
            return SPENT;
        }
        return ordered(walked()).soonestOf(riders);
    }

    public int dodge(int rider, int what) throws NoSuchElementException {
        checkRider(rider);
        checkWhat(what, 1);
        other.prepare(here, state);
        int seats = 0;
        int least = NONE;
        for (int place = 0; place < PLACES; place++) {
            if (isFree(rider, place)) {
                other.moveRider(rider, place);
                other.travel();
                if ((other.payers >> rider & 1) == 0) {
                    least = seats == 0 ? place : least;
                    seats++;
                }
            }
        }
        return what == 0 ? seats : least;
    }

    public int worth(int rider) throws NoSuchElementException {
        checkRider(rider);
        other.prepare(here, state);
        other.comers = here.everybody() & ~(1 << rider);
        other.travel();
        return walked().taken - other.taken;
    }

    public int pace() {
        int taken = walked().taken;
        other.prepare(here, state);
        for (int take = TAKE_MOST; take > 1; take--) {
            other.take = take;
            other.travel();
            if (other.taken >= taken) {
                return take;
            }
        }
        return 1;
    }

    public long likely(int rider, int what) throws NoSuchElementException {
        checkRider(rider);
        checkWhat(what, 1);
        Chances all = reckonedChances();
        return all.partOf(all.pays[rider], what);
    }

    public long mean(int what) throws NoSuchElementException {
        checkWhat(what, 1);
        Chances all = reckonedChances();
        return all.partOf(all.takenByWeight, what);
    }

    public void image() {
        kept.copyFrom(state);
        hasImage = true;
    }

    public boolean restore() {
        if (!hasImage) {
            return false;
        }
        state.copyFrom(kept);
        stateChanged();
        return true;
    }

    private void putNumber(int number) {
        for (int shift = 24; shift >= 0 && tapeEnd < TAPE_MOST; shift -= 8) {
            tape[tapeEnd] = (byte) (number >> shift);
            tapeEnd++;
        }
    }

    private void checkStop(int stop) {
        if (stop < 0 || stop >= here.stops) {
            throw new NoSuchElementException("no such stop");
        }
    }

    private void checkRider(int rider) {
        if (rider < 0 || rider >= here.riders) {
            throw new NoSuchElementException("no such rider");
        }
    }

    private void checkWhat(int what, int last) {
        if (what < 0 || what > last) {
            throw new NoSuchElementException("no such what");
        }
    }

    private boolean isRuleOrNone(int rule) {
        return rule >= NONE && rule < here.picks;
    }

    private void stateChanged() {
        nowStands = false;
        ordersStand = false;
        chancesStand = false;
    }

    /** The trip as all is now; made again only behind a change, as most calls ask for it. */
    private Trip walked() {
        if (!nowStands) {
            now.prepare(here, state);
            now.travel();
            nowStands = true;
        }
        return now;
    }

    private Orders ordered(Trip trip) {
        if (!ordersStand) {
            orders.reckon(trip);
            ordersStand = true;
        }
        return orders;
    }

    private Chances reckonedChances() {
        if (!chancesStand) {
            other.prepare(here, state);
            chances.begin(here);
            for (int set = 0; set < 1 << chances.found; set++) {
                long weight = chances.letCome(other, set);
                other.travel();
                chances.addTrip(other, weight);
            }
            chancesStand = true;
        }
        return chances;
    }

    private int netOf(int taken, int seconds) {
        return taken - here.setting[LATE] * seconds / MINUTE;
    }

    private int netByRule(int rule) {
        other.prepare(here, state);
        other.rule = rule;
        other.travel();
        return netOf(other.taken, state.allHolds());
    }

    /** Cut down as NET is, so that it does not fall evenly: all pence are looked at. */
    private int doorLine(int fares, int waited, int taken) {
        int holds = state.allHolds();
        for (int pence = LATE_MOST; pence >= 0; pence--) {
            int atDoor = fares - pence * (waited + holds) / MINUTE;
            int walking = taken - pence * holds / MINUTE;
            if (atDoor >= walking) {
                return pence;
            }
        }
        return NONE;
    }

    private boolean isFree(int rider, int place) {
        for (int man = 0; man < here.riders; man++) {
            if (man != rider && state.seat[man] == place && here.rideTogether(man, rider)) {
                return false;
            }
        }
        return true;
    }

    private boolean isAsCounted(int above) {
        for (int i = 0; i < state.counted; i++) {
            int there = state.countedThere[i];
            int onDeck = state.countedDeck[i] == 1 ? there & above : there & ~above;
            if (Integer.bitCount(onDeck) != state.countedHeads[i]) {
                return false;
            }
        }
        return true;
    }

    private static boolean restsCouple(int deck, int chosen, int fare, int below, int above) {
        int gain = (deck == 0 ? below : above) + (chosen == deck ? fare : 0);
        int otherGain = (deck == 0 ? above : below) + (chosen == deck ? 0 : fare);
        boolean riderContent = chosen != deck || fare <= 0;
        return gain >= otherGain && riderContent;
    }

    /** What a text tells of a bus; it does not change while the bus rides. */
    private static final class Bus {
        final int[] ride = new int[STOPS_MOST - 1];
        final int[] from = new int[RIDERS_MOST];
        final int[] to = new int[RIDERS_MOST];
        final int[] seat = new int[RIDERS_MOST];
        final int[] tenths = new int[RIDERS_MOST];
        final int[] setting = SETTING_FIRST.clone();
        // Rule 0 is that of the fare, those behind it are picks.
        final int[] ruleStart = new int[1 + PICKS_MOST];
        final int[] ruleEnd = new int[1 + PICKS_MOST];
        final int[] code = new int[TAPE_MOST];
        int codeEnd;
        int stops;
        int riders;
        int picks;
        int notes;

        Bus() {
            stops = 2;
            ride[0] = MINUTE;
        }

        void makeEmpty() {
            stops = 2;
            ride[0] = MINUTE;
            riders = 0;
            picks = 0;
            notes = 0;
            codeEnd = 0;
            ruleStart[0] = 0;
            ruleEnd[0] = 0;
            System.arraycopy(SETTING_FIRST, 0, setting, 0, SETTING_FIRST.length);
        }

        boolean hasFareRule() {
            return ruleEnd[0] > ruleStart[0];
        }

        int everybody() {
            return (1 << riders) - 1;
        }

        int hopsOf(int rider) {
            return to[rider] - from[rider];
        }

        int takeOf(int rider, int take) {
            return (notes >> rider & 1) == 0 ? take : 3 * take;
        }

        boolean rideTogether(int rider, int man) {
            return from[rider] < to[man] && from[man] < to[rider];
        }

        int ridersThere(int stop) {
            int bits = 0;
            for (int rider = 0; rider < riders; rider++) {
                if (from[rider] <= stop && stop < to[rider]) {
                    bits |= 1 << rider;
                }
            }
            return bits;
        }

        int ridersFrom(int stop) {
            int bits = 0;
            for (int rider = 0; rider < riders; rider++) {
                if (from[rider] == stop) {
                    bits |= 1 << rider;
                }
            }
            return bits;
        }

        int secondsBetween(int place, int goal) {
            if (place / SEATS == goal / SEATS) {
                return setting[STEP] * Math.abs(place - goal);
            }
            return setting[STEP] * (place % SEATS + goal % SEATS) + setting[STAIR];
        }
    }

    /** What the calls change on a bus: all that an image keeps. */
    private static final class State {
        final int[] hold = new int[STOPS_MOST];
        final int[] seat = new int[RIDERS_MOST];
        final int[] actKind = new int[ACTS_MOST];
        final int[] actOn = new int[ACTS_MOST];
        final int[] actOld = new int[ACTS_MOST];
        final int[] countedThere = new int[COUNTED_MOST];
        final int[] countedDeck = new int[COUNTED_MOST];
        final int[] countedHeads = new int[COUNTED_MOST];
        int rule = NONE;
        int acts;
        int counted;

        void startOn(Bus bus) {
            for (int i = 0; i < hold.length; i++) {
                hold[i] = 0;
            }
            System.arraycopy(bus.seat, 0, seat, 0, RIDERS_MOST);
            rule = NONE;
            acts = 0;
            counted = 0;
        }

        void copyFrom(State state) {
            System.arraycopy(state.hold, 0, hold, 0, STOPS_MOST);
            System.arraycopy(state.seat, 0, seat, 0, RIDERS_MOST);
            System.arraycopy(state.actKind, 0, actKind, 0, ACTS_MOST);
            System.arraycopy(state.actOn, 0, actOn, 0, ACTS_MOST);
            System.arraycopy(state.actOld, 0, actOld, 0, ACTS_MOST);
            System.arraycopy(state.countedThere, 0, countedThere, 0, COUNTED_MOST);
            System.arraycopy(state.countedDeck, 0, countedDeck, 0, COUNTED_MOST);
            System.arraycopy(state.countedHeads, 0, countedHeads, 0, COUNTED_MOST);
            rule = state.rule;
            acts = state.acts;
            counted = state.counted;
        }

        int allHolds() {
            int sum = 0;
            for (int i = 0; i < hold.length; i++) {
                sum += hold[i];
            }
            return sum;
        }

        void keepAct(int kind, int on, int old) {
            if (acts == ACTS_MOST) {
                System.arraycopy(actKind, 1, actKind, 0, ACTS_MOST - 1);
                System.arraycopy(actOn, 1, actOn, 0, ACTS_MOST - 1);
                System.arraycopy(actOld, 1, actOld, 0, ACTS_MOST - 1);
                acts--;
            }
            actKind[acts] = kind;
            actOn[acts] = on;
            actOld[acts] = old;
            acts++;
        }

        void undoLast() {
            if (acts == 0) {
                return;
            }
            acts--;
            if (actKind[acts] == ACT_HOLD) {
                hold[actOn[acts]] = actOld[acts];
            } else if (actKind[acts] == ACT_SIT) {
                seat[actOn[acts]] = actOld[acts];
            } else {
                rule = actOld[acts];
            }
        }

        void keepCounted(int there, int deck, int heads) {
            if (counted < COUNTED_MOST) {
                countedThere[counted] = there;
                countedDeck[counted] = deck;
                countedHeads[counted] = heads;
                counted++;
            }
        }
    }

    /** Cuts a text into its tokens: it stands on one of them at a time. */
    private static final class Tokens {
        static final int END = 0;
        static final int STRANGE = 1;
        static final int WORD = 2;
        static final int NUMBER = 3;
        static final int DIGITS_MOST = 4;

        final byte[] text;
        int length;
        int start;
        int end;
        // One of the kinds above, or the sign itself.
        int kind;
        // NONE, if it has too many digits.
        int number;

        Tokens(byte[] bytes) {
            text = bytes;
        }

        void begin(int n) {
            length = Math.min(n, text.length);
            start = 0;
            end = 0;
            goOn();
        }

        void goOn() {
            start = end;
            while (start < length && (text[start] == ' ' || text[start] == '\n')) {
                start++;
            }
            end = start;
            if (start >= length) {
                kind = END;
                return;
            }
            int sign = text[start];
            if (sign >= 'a' && sign <= 'z') {
                kind = WORD;
                end = rowEnd('a', 'z');
            } else if (sign >= '0' && sign <= '9') {
                kind = NUMBER;
                end = rowEnd('0', '9');
                number = numberRead();
            } else {
                kind = isSign(sign) ? sign : STRANGE;
                end = start + 1;
            }
        }

        /** Where the row of bytes from least to most ends that begins at the start. */
        private int rowEnd(int least, int most) {
            int at = start;
            while (at < length && text[at] >= least && text[at] <= most) {
                at++;
            }
            return at;
        }

        private int numberRead() {
            if (end - start > DIGITS_MOST) {
                return NONE;
            }
            int read = 0;
            for (int i = start; i < end; i++) {
                read = read * 10 + (text[i] - '0');
            }
            return read;
        }

        boolean isThe(String word) {
            if (kind != WORD || end - start != word.length()) {
                return false;
            }
            for (int i = 0; i < word.length(); i++) {
                if (text[start + i] != word.charAt(i)) {
                    return false;
                }
            }
            return true;
        }

        private static boolean isSign(int sign) {
            return sign == ';' || sign == '(' || sign == ')' || sign == '+' || sign == '-'
                    || sign == '*' || sign == '/' || sign == '<' || sign == '=';
        }
    }

    /** Reads a text into a bus, or tells the first fault along it. */
    private static final class Parser {
        static final int FAULT_PLACE = 1;
        static final int FAULT_MUCH = 2;
        static final int FAULT_VALUE = 3;
        static final int FAULT_SEAT = 4;
        static final int FAULT_TWICE = 5;
        static final int FAULT_LATE_RIDE = 6;
        static final int WITHIN_MOST = 6;
        static final int NOTS_MOST = 6;
        // Bits of the words that were met: the settings by their index, then these.
        static final int MET_RIDE = 1 << 5;
        static final int MET_FARE = 1 << 6;

        final Tokens token;
        Bus bus;
        int met;
        int values;
        int fault;
        int faultPlace;

        Parser(byte[] text, Bus first) {
            token = new Tokens(text);
            bus = first;
        }

        int readBus(int n, Bus into) {
            bus = into;
            bus.makeEmpty();
            met = 0;
            fault = 0;
            faultPlace = NONE;
            token.begin(n);
            for (int line = 0; line < TAPE_MOST && token.kind != Tokens.END; line++) {
                if (!readLine()) {
                    return fault;
                }
            }
            return 0;
        }

        private boolean refuse(int why) {
            fault = why;
            faultPlace = token.start;
            return false;
        }

        private boolean readLine() {
            if (token.isThe("ride")) {
                return readRides();
            }
            if (token.isThe("rider")) {
                return readRider();
            }
            if (token.isThe("fare")) {
                return passOnce(MET_FARE) && readRule(0, VALUES_OF_FARE);
            }
            if (token.isThe("picks")) {
                return passPicks() && readRule(bus.picks, VALUES);
            }
            int setting = settingNamed();
            return setting == NONE ? refuse(FAULT_PLACE) : readSetting(setting);
        }

        private int settingNamed() {
            if (token.isThe("step")) {
                return STEP;
            }
            if (token.isThe("stair")) {
                return STAIR;
            }
            if (token.isThe("take")) {
                return TAKE;
            }
            if (token.isThe("late")) {
                return LATE;
            }
            return token.isThe("fade") ? FADE : NONE;
        }

        /** Whether the token is a number from least to most; it stays on it. */
        private boolean isNumber(int least, int most) {
            if (token.kind != Tokens.NUMBER) {
                return refuse(FAULT_PLACE);
            }
            // A number with too many digits is NONE, which is below all that may be.
            return token.number >= least && token.number <= most || refuse(FAULT_MUCH);
        }

        private boolean passSign(int sign) {
            if (token.kind != sign) {
                return refuse(FAULT_PLACE);
            }
            token.goOn();
            return true;
        }

        private boolean passOnce(int bit) {
            if ((met & bit) != 0) {
                return refuse(FAULT_TWICE);
            }
            met |= bit;
            token.goOn();
            return true;
        }

        private boolean readSetting(int setting) {
            if (!passOnce(1 << setting)
                    || !isNumber(SETTING_LEAST[setting], SETTING_MOST[setting])) {
                return false;
            }
            bus.setting[setting] = token.number;
            token.goOn();
            return passSign(';');
        }

        private boolean readRides() {
            if (bus.riders > 0) {
                return refuse(FAULT_LATE_RIDE);
            }
            if (!passOnce(MET_RIDE)) {
                return false;
            }
            int rides = 0;
            do {
                if (token.kind == Tokens.NUMBER && rides >= bus.ride.length) {
                    return refuse(FAULT_MUCH);
                }
                if (!isNumber(1, RIDE_MOST)) {
                    return false;
                }
                bus.ride[rides] = token.number;
                rides++;
                token.goOn();
            } while (rides < STOPS_MOST && token.kind == Tokens.NUMBER);
            bus.stops = rides + 1;
            return passSign(';');
        }

        private boolean readRider() {
            int rider = bus.riders;
            if (rider >= RIDERS_MOST) {
                return refuse(FAULT_MUCH);
            }
            token.goOn();
            if (!isNumber(0, bus.stops - 1)) {
                return false;
            }
            bus.from[rider] = token.number;
            token.goOn();
            if (!isNumber(bus.from[rider] + 1, bus.stops - 1)) {
                return false;
            }
            bus.to[rider] = token.number;
            token.goOn();
            if (!readPlace(rider) || !readNoteAndTenths(rider)) {
                return false;
            }
            bus.riders++;
            return passSign(';');
        }

        private boolean readPlace(int rider) {
            boolean above = token.isThe("above");
            if (!above && !token.isThe("below")) {
                return refuse(FAULT_PLACE);
            }
            token.goOn();
            if (!isNumber(0, SEATS - 1)) {
                return false;
            }
            int place = (above ? SEATS : 0) + token.number;
            for (int man = 0; man < rider; man++) {
                if (bus.seat[man] == place && bus.rideTogether(man, rider)) {
                    return refuse(FAULT_SEAT);
                }
            }
            bus.seat[rider] = place;
            token.goOn();
            return true;
        }

        private boolean readNoteAndTenths(int rider) {
            bus.tenths[rider] = TENTHS_ALL;
            if (token.isThe("note")) {
                bus.notes |= 1 << rider;
                token.goOn();
            }
            if (token.isThe("maybe")) {
                token.goOn();
                if (!isNumber(0, TENTHS_ALL)) {
                    return false;
                }
                bus.tenths[rider] = token.number;
                token.goOn();
            }
            return true;
        }

        private boolean passPicks() {
            if (bus.picks >= PICKS_MOST) {
                return refuse(FAULT_MUCH);
            }
            bus.picks++;
            token.goOn();
            return true;
        }

        private boolean readRule(int rule, int valuesOfIt) {
            values = valuesOfIt;
            bus.ruleStart[rule] = bus.codeEnd;
            if (!readExpr(0)) {
                return false;
            }
            bus.ruleEnd[rule] = bus.codeEnd;
            return passSign(';');
        }

        private void putCode(int what) {
            // A code needs a token of its own, so the longest text has room enough.
            if (bus.codeEnd < bus.code.length) {
                bus.code[bus.codeEnd] = what;
                bus.codeEnd++;
            }
        }

        private boolean readExpr(int within) {
            if (within >= WITHIN_MOST && canBeginExpr()) {
                return refuse(FAULT_MUCH);
            }
            if (!readAnd(within)) {
                return false;
            }
            for (int i = 0; i < TAPE_MOST && token.isThe("or"); i++) {
                token.goOn();
                if (!readAnd(within)) {
                    return false;
                }
                putCode(OP_OR);
            }
            return true;
        }

        private boolean canBeginExpr() {
            return token.kind == Tokens.NUMBER || token.kind == Tokens.WORD || token.kind == '(';
        }

        private boolean readAnd(int within) {
            if (!readNot(within)) {
                return false;
            }
            for (int i = 0; i < TAPE_MOST && token.isThe("and"); i++) {
                token.goOn();
                if (!readNot(within)) {
                    return false;
                }
                putCode(OP_AND);
            }
            return true;
        }

        private boolean readNot(int within) {
            int nots = 0;
            while (nots <= NOTS_MOST && token.isThe("not")) {
                if (nots == NOTS_MOST) {
                    return refuse(FAULT_MUCH);
                }
                nots++;
                token.goOn();
            }
            if (!readTest(within)) {
                return false;
            }
            for (int i = 0; i < nots; i++) {
                putCode(OP_NOT);
            }
            return true;
        }

        private boolean readTest(int within) {
            if (!readSum(within)) {
                return false;
            }
            int sign = token.kind;
            if (sign != '<' && sign != '=') {
                return true;
            }
            token.goOn();
            if (!readSum(within)) {
                return false;
            }
            putCode(sign == '<' ? OP_LESS : OP_SAME);
            return true;
        }

        private boolean readSum(int within) {
            if (!readProduct(within)) {
                return false;
            }
            for (int i = 0; i < TAPE_MOST && (token.kind == '+' || token.kind == '-'); i++) {
                int op = token.kind == '+' ? OP_PLUS : OP_MINUS;
                token.goOn();
                if (!readProduct(within)) {
                    return false;
                }
                putCode(op);
            }
            return true;
        }

        private boolean readProduct(int within) {
            if (!readPart(within)) {
                return false;
            }
            for (int i = 0; i < TAPE_MOST && (token.kind == '*' || token.kind == '/'); i++) {
                int op = token.kind == '*' ? OP_TIMES : OP_BY;
                token.goOn();
                if (!readPart(within)) {
                    return false;
                }
                putCode(op);
            }
            return true;
        }

        private boolean readPart(int within) {
            if (token.kind == '(') {
                token.goOn();
                return readExpr(within + 1) && passSign(')');
            }
            int what;
            if (token.kind == Tokens.WORD) {
                int value = valueNamed();
                if (value >= values) {
                    return refuse(FAULT_VALUE);
                }
                what = -1 - value;
            } else if (isNumber(0, Integer.MAX_VALUE)) {
                what = token.number;
            } else {
                return false;
            }
            putCode(what);
            token.goOn();
            return true;
        }

        /** The index of the value that the word names; VALUES, if it names none. */
        private int valueNamed() {
            if (token.isThe("hops")) {
                return 0;
            }
            if (token.isThe("deck")) {
                return 1;
            }
            if (token.isThe("seat")) {
                return 2;
            }
            if (token.isThe("note")) {
                return 3;
            }
            if (token.isThe("near")) {
                return 4;
            }
            if (token.isThe("left")) {
                return 5;
            }
            if (token.isThe("new")) {
                return 6;
            }
            return token.isThe("fare") ? 7 : VALUES;
        }
    }

    /** Reckons what a rule gives for the values of a rider that were put before. */
    private static final class Reckoner {
        // Five waiting parts at each of six levels of parentheses, and one more, are the most.
        static final int STACK_MOST = 40;

        final int[] stack = new int[STACK_MOST];
        final int[] value = new int[VALUES];

        void putRider(Bus bus, int rider, int place) {
            value[0] = bus.hopsOf(rider);
            value[1] = place / SEATS;
            value[2] = place % SEATS;
            value[3] = bus.notes >> rider & 1;
        }

        void putMoment(int near, int left, int ago, int fare) {
            value[4] = near;
            value[5] = left;
            value[6] = ago;
            value[7] = fare;
        }

        int reckonRule(Bus bus, int rule) {
            int top = 0;
            for (int i = bus.ruleStart[rule]; i < bus.ruleEnd[rule]; i++) {
                int what = bus.code[i];
                if (what >= -VALUES && top < STACK_MOST) {
                    stack[top] = what >= 0 ? what : value[-1 - what];
                    top++;
                } else if (what == OP_NOT && top >= 1) {
                    stack[top - 1] = stack[top - 1] == 0 ? 1 : 0;
                } else if (top >= 2) {
                    top--;
                    stack[top - 1] = join(what, stack[top - 1], stack[top]);
                }
            }
            return stack[0];
        }

        private static int join(int op, int left, int right) {
            switch (op) {
                case OP_OR: return left != 0 || right != 0 ? 1 : 0;
                case OP_AND: return left != 0 && right != 0 ? 1 : 0;
                case OP_LESS: return left < right ? 1 : 0;
                case OP_SAME: return left == right ? 1 : 0;
                case OP_PLUS: return left + right;
                case OP_MINUS: return left - right;
                case OP_TIMES: return left * right;
                default: return right == 0 ? 0 : left / right;
            }
        }
    }

    /** One ride of the bus with its conductor: what is given, then what came of it. */
    private static final class Trip {
        final Reckoner reckoner = new Reckoner();
        final int[] at = new int[STOPS_MOST];
        final int[] seat = new int[RIDERS_MOST];
        final int[] fare = new int[RIDERS_MOST];
        Bus bus;
        int take;
        int rule;
        int comers;
        int start;

        final int[] paidAt = new int[RIDERS_MOST];
        final int[] askedAs = new int[RIDERS_MOST];
        final int[] order = new int[RIDERS_MOST];
        final int[] pickedAt = new int[RIDERS_MOST];
        int asks;
        int asked;
        int payers;
        int taken;
        int stairs;
        int waits;
        int goes;
        int takes;

        Trip(Bus first) {
            bus = first;
        }

        void prepare(Bus of, State state) {
            bus = of;
            take = of.setting[TAKE];
            rule = state.rule;
            comers = of.everybody();
            start = 0;
            at[0] = 0;
            for (int stop = 1; stop < of.stops; stop++) {
                at[stop] = at[stop - 1] + state.hold[stop - 1] + of.ride[stop - 1];
            }
            for (int rider = 0; rider < of.riders; rider++) {
                moveRider(rider, state.seat[rider]);
            }
        }

        /** His fare goes with his seat, as its rule may look at it. */
        void moveRider(int rider, int place) {
            seat[rider] = place;
            if (bus.hasFareRule()) {
                reckoner.putRider(bus, rider, place);
                fare[rider] = Math.max(0, Math.min(FARE_MOST, reckoner.reckonRule(bus, 0)));
            } else {
                fare[rider] = 2 * bus.hopsOf(rider);
            }
        }

        void fareOfAll(int pence) {
            for (int rider = 0; rider < bus.riders; rider++) {
                fare[rider] = pence;
            }
        }

        void moveBehind(int stop, int seconds) {
            for (int later = stop + 1; later < bus.stops; later++) {
                at[later] += seconds;
            }
        }

        /** Lets come whom the seed lets come, and tells what it has become. */
        int drawComers(int seed) {
            int drawn = seed;
            comers = 0;
            for (int rider = 0; rider < bus.riders; rider++) {
                boolean comes = true;
                if (bus.tenths[rider] != TENTHS_ALL) {
                    drawn = drawn * 1103515245 + 12345;
                    comes = (drawn >>> 16 & 0x7fff) % TENTHS_ALL < bus.tenths[rider];
                }
                if (comes) {
                    comers |= 1 << rider;
                }
            }
            return drawn;
        }

        void travel() {
            forgetAll();
            int last = bus.stops - 1;
            int second = 0;
            int stop = 0;
            int place = start;
            for (int turn = 0; turn < RIDERS_MOST + STOPS_MOST && stop < last; turn++) {
                int rider = pickRider(place, stop);
                if (rider == NONE) {
                    waits += at[stop + 1] - second;
                    second = at[stop + 1];
                } else {
                    second = askRider(rider, place, second);
                    place = seat[rider];
                }
                while (stop < last && at[stop + 1] <= second) {
                    stop++;
                }
            }
        }

        private void forgetAll() {
            for (int rider = 0; rider < bus.riders; rider++) {
                paidAt[rider] = NONE;
                askedAs[rider] = NONE;
            }
            asks = 0;
            asked = 0;
            payers = 0;
            taken = 0;
            stairs = 0;
            waits = 0;
            goes = 0;
            takes = 0;
        }

        private int pickRider(int place, int stop) {
            int waiting = comers & ~asked;
            int picked = NONE;
            int most = 0;
            for (int rider = 0; rider < bus.riders; rider++) {
                if ((waiting >> rider & 1) != 0
                        && bus.from[rider] <= stop && stop < bus.to[rider]) {
                    int given = urgeOf(rider, place, stop);
                    if (picked == NONE || given > most) {
                        picked = rider;
                        most = given;
                    }
                }
            }
            return picked;
        }

        private int urgeOf(int rider, int place, int stop) {
            int near = bus.secondsBetween(place, seat[rider]);
            if (rule == NONE) {
                return -near;
            }
            reckoner.putRider(bus, rider, seat[rider]);
            reckoner.putMoment(near, bus.to[rider] - stop, stop - bus.from[rider], fare[rider]);
            return reckoner.reckonRule(bus, rule + 1);
        }

        /** He goes to the rider and takes the fare, or misses him: the second when he is free. */
        private int askRider(int rider, int place, int second) {
            order[asks] = rider;
            pickedAt[asks] = second;
            askedAs[rider] = asks;
            asks++;
            asked |= 1 << rider;
            int way = bus.secondsBetween(place, seat[rider]);
            if (place / SEATS != seat[rider] / SEATS) {
                stairs++;
            }
            goes += way;
            int taking = bus.takeOf(rider, take);
            int done = second + way + taking;
            if (done > at[bus.to[rider]]) {
                return second + way;
            }
            takes += taking;
            taken += fare[rider];
            payers |= 1 << rider;
            paidAt[rider] = done;
            return done;
        }

        int placeIn(int second) {
            for (int i = asks - 1; i >= 0; i--) {
                if (pickedAt[i] <= second) {
                    return seat[order[i]];
                }
            }
            return start;
        }

        int stopIn(int second) {
            int stop = 0;
            while (stop + 1 < bus.stops && at[stop + 1] <= second) {
                stop++;
            }
            return stop;
        }

        int payerAt(int nth) {
            int left = nth;
            for (int i = 0; i < asks; i++) {
                if ((payers >> order[i] & 1) != 0) {
                    if (left == 0) {
                        return order[i];
                    }
                    left--;
                }
            }
            return NONE;
        }

        int lastPaidAt() {
            int last = 0;
            for (int rider = 0; rider < bus.riders; rider++) {
                last = Math.max(last, paidAt[rider]);
            }
            return last;
        }

        int ridersAbove() {
            int bits = 0;
            for (int rider = 0; rider < bus.riders; rider++) {
                if (seat[rider] >= SEATS) {
                    bits |= 1 << rider;
                }
            }
            return bits;
        }

        int faresOf(int riders) {
            int sum = 0;
            for (int rider = 0; rider < bus.riders; rider++) {
                if ((riders >> rider & 1) != 0) {
                    sum += fare[rider];
                }
            }
            return sum;
        }
    }

    /** All orders of at most ten riders: how soon each set can have paid, by who pays last. */
    private static final class Orders {
        static final int FAR = Integer.MAX_VALUE;

        // Made when it is first needed, as many objects never need it.
        int[] soonestByLast = new int[0];
        int riders;
        int mostFares;
        int mostSet;

        void reckon(Trip trip) {
            riders = Math.min(trip.bus.riders, ORDERED_MOST);
            int sets = 1 << riders;
            if (soonestByLast.length == 0) {
                soonestByLast = new int[(1 << ORDERED_MOST) * ORDERED_MOST];
            }
            for (int i = 0; i < sets * ORDERED_MOST; i++) {
                soonestByLast[i] = FAR;
            }
            goOnFrom(trip, 0, 0, 0);
            for (int set = 1; set < sets; set++) {
                for (int last = 0; last < riders; last++) {
                    int second = soonestByLast[set * ORDERED_MOST + last];
                    if (second != FAR) {
                        goOnFrom(trip, set, second, trip.seat[last]);
                    }
                }
            }
            findMost(trip, sets);
        }

        private void goOnFrom(Trip trip, int set, int second, int place) {
            Bus bus = trip.bus;
            for (int rider = 0; rider < riders; rider++) {
                if ((set >> rider & 1) == 0) {
                    int there = second + bus.secondsBetween(place, trip.seat[rider]);
                    int paid = Math.max(there, trip.at[bus.from[rider]])
                            + bus.takeOf(rider, trip.take);
                    int cell = (set | 1 << rider) * ORDERED_MOST + rider;
                    if (paid <= trip.at[bus.to[rider]] && paid < soonestByLast[cell]) {
                        soonestByLast[cell] = paid;
                    }
                }
            }
        }

        private void findMost(Trip trip, int sets) {
            mostFares = 0;
            mostSet = 0;
            for (int set = 1; set < sets; set++) {
                if (soonestOf(set) != NONE) {
                    int fares = trip.faresOf(set);
                    if (fares > mostFares) {
                        mostFares = fares;
                        mostSet = set;
                    }
                }
            }
        }

        int soonestOf(int set) {
            if (set <= 0 || set >= 1 << riders) {
                return 0;
            }
            int soonest = FAR;
            for (int last = 0; last < riders; last++) {
                soonest = Math.min(soonest, soonestByLast[set * ORDERED_MOST + last]);
            }
            return soonest == FAR ? NONE : soonest;
        }
    }

    /** All that may come of who comes and who does not, each by its weight. */
    private static final class Chances {
        final long[] pays = new long[RIDERS_MOST];
        final int[] chancy = new int[CHANCY_MOST];
        int found;
        int surely;
        long takenByWeight;
        long whole;

        void begin(Bus bus) {
            found = 0;
            surely = 0;
            takenByWeight = 0;
            whole = 1;
            for (int rider = 0; rider < bus.riders; rider++) {
                pays[rider] = 0;
                int tenths = bus.tenths[rider];
                if (tenths > 0 && tenths < TENTHS_ALL && found < CHANCY_MOST) {
                    chancy[found] = rider;
                    found++;
                    whole *= TENTHS_ALL;
                } else if (tenths > 0) {
                    surely |= 1 << rider;
                }
            }
        }

        /** Lets a set of the chancy riders come, and tells how much that weighs. */
        long letCome(Trip trip, int set) {
            long weight = 1;
            int comers = surely;
            for (int i = 0; i < found; i++) {
                int tenths = trip.bus.tenths[chancy[i]];
                if ((set >> i & 1) != 0) {
                    weight *= tenths;
                    comers |= 1 << chancy[i];
                } else {
                    weight *= TENTHS_ALL - tenths;
                }
            }
            trip.comers = comers;
            return weight;
        }

        void addTrip(Trip trip, long weight) {
            takenByWeight += weight * trip.taken;
            for (int rider = 0; rider < trip.bus.riders; rider++) {
                if ((trip.payers >> rider & 1) != 0) {
                    pays[rider] += weight;
                }
            }
        }

        /** The upper (0) or lower part (1) of a weight's share of the whole, in lowest terms. */
        long partOf(long weight, int part) {
            long divisor = whole;
            long rest = weight;
            for (int i = 0; i < 200 && rest != 0; i++) {
                long next = divisor % rest;
                divisor = rest;
                rest = next;
            }
            long upperOrLower = part == 0 ? weight : whole;
            return divisor > 1 ? upperOrLower / divisor : upperOrLower;
        }
    }
}
