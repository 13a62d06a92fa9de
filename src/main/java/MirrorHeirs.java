import java.util.Arrays;

/** A hall of mirrors that is left by lines of sight; ../shared/DOC.md says what it promises. */
public final class MirrorHeirs {
    public static final int NONE = -1;

    private static final int BAD_NUMBER = -1;
    private static final int NO_SUCH = -2;
    private static final int BLOCKED = -3;
    private static final int NO_ROOM = -5;
    private static final int BAD_TEXT = -6;

    private static final int SIDE = 8;
    private static final int CELLS = 64;
    private static final int DIRECTIONS = 4;
    private static final int TAPE_ROOM = 400;
    private static final int FED_AT_ONCE = 20;

    private static final int NOTHING = 0;
    private static final int PILLAR = 3;
    private static final int CRACKED = 4;
    private static final int LAST_KIND = 5;

    private static final int MOST_PIVOTS = 8;
    private static final int MOST_HEIRS = 6;
    private static final int MOST_THINGS = 12;
    private static final int MOST_CANDLES = 4;
    private static final int MOST_LAWS = 6;
    private static final int MOST_TELLINGS = 10;
    private static final int MOST_HINTS = 6;
    private static final int MOST_UNDONE = 16;
    private static final int MOST_LINES = 12;
    private static final int MOST_SETS = 256;
    private static final int MOST_IMAGES = 2;

    private static final int GLANCES = 0;
    private static final int HOUR = 1;
    private static final int DRAUGHT = 2;
    private static final int HOURS = 24;
    private static final int MOST_GLANCES = 6;
    private static final int[] LEAST_TERMS = {1, 0, 0};
    private static final int[] MOST_TERMS = {6, 23, 10};

    // The columns of what is kept in Rows; the cell, where there is one, stands first.
    private static final int CELL = 0;
    private static final int OWNER = 1;
    private static final int PRICE = 2;
    private static final int AGE = 1;
    private static final int WORTH = 1;
    private static final int HIGH = 2;

    private static final int VERB = 0;
    private static final int FIRST = 1;
    private static final int SECOND = 2;
    private static final int TEST = 3;
    private static final int CLOSE = 4;
    private static final int TIMES = 5;
    private static final int LINE_WIDTH = 6;

    private static final int CLAIMS = 0;
    private static final int FOGS = 1;
    private static final int BARS = 2;
    private static final int TURN = 3;
    private static final int MOVE = 4;
    private static final int WAIT = 5;

    // What the parts of a law are asked of: places in its slate.
    private static final int OF_X = 0;
    private static final int OF_Y = 1;
    private static final int OF_GLANCE = 2;
    private static final int OF_HOUR = 3;
    private static final int OF_HEIR = 4;
    private static final int OF_AGE = 5;
    private static final int OF_THING = 6;
    private static final int OF_WORTH = 7;
    private static final int OF_HIGH = 8;
    private static final int OF_LIT = 9;
    private static final int LAW_SLOTS = 10;

    // The same for orders.
    private static final int BY_HOUR = 0;
    private static final int BY_PIVOTS = 1;
    private static final int BY_DONE = 2;
    private static final int BY_RENT = 3;
    private static final int BY_ESTATE = 4;
    private static final int BY_SEES = 10;
    private static final int ORDER_SLOTS = 82;

    private static final int PUSH_NUMBER = 0;
    private static final int PUSH_SLOT = 1;
    private static final int NOT = 2;
    private static final int AND = 3;
    private static final int OR = 4;
    private static final int ADD = 5;
    private static final int SUBTRACT = 6;
    private static final int MULTIPLY = 7;
    private static final int DIVIDE = 8;
    private static final int REMAINDER = 9;
    private static final int LESS = 10;
    private static final int MORE = 11;
    private static final int SAME = 12;
    private static final int CODE_BITS = 4;
    private static final int CODE_MASK = 15;

    private static final int BROKEN = -2147483648;
    private static final long FARTHEST = 1000000000L;

    private final Hall hall;
    private final Hall[] images;
    private final int[] tape;
    private final int[] refusals;
    private final Reader reader;
    private final Sight sight;
    private final Shares shares;
    private final Sets sets;
    private final Places places;
    private final Wind wind;
    private final Deeds deeds;
    private int tapeLength;
    private int faultPlace;
    private int dustCount;
    private int latestStatus;

    public MirrorHeirs() {
        // All parts work on one hall and one tape, which are made ahead of them.
        Hall oneHall = new Hall();
        int[] oneTape = new int[TAPE_ROOM];
        Sight oneSight = new Sight(oneHall);
        Shares oneShares = new Shares(oneHall, oneSight);
        hall = oneHall;
        tape = oneTape;
        sight = oneSight;
        shares = oneShares;
        images = new Hall[MOST_IMAGES];
        refusals = new int[-BAD_TEXT];
        reader = new Reader(oneTape);
        sets = new Sets(oneHall, oneSight, oneShares);
        places = new Places(oneHall, oneSight);
        wind = new Wind(oneHall, oneShares);
        deeds = new Deeds(oneHall, oneShares);
        tapeLength = 0;
        faultPlace = NONE;
        dustCount = 0;
        latestStatus = 0;
    }

    public int put(int cell, int kind) {
        if (!isCell(cell) || !isKind(kind)) {
            return refused(BAD_NUMBER);
        }
        if (!hall.mayLay(cell, kind)) {
            return refused(BLOCKED);
        }
        int was = hall.kindAt(cell);
        hall.lay(cell, kind);
        deeds.forgetAll();
        return granted(was);
    }

    public int at(int cell, int what) {
        if (!isCell(cell)) {
            return NONE;
        }
        switch (what) {
            case 0: return hall.kindAt(cell);
            case 1: return hall.pivots.find(cell);
            case 2: return hall.heirs.find(cell);
            case 3: return hall.things.find(cell);
            case 4: return hall.candles.find(cell);
            default: return NONE;
        }
    }

    public int pivot(int cell, int owner, int price) {
        if (!isCell(cell) || !isWithin(owner, NONE, MOST_HEIRS - 1) || !isWithin(price, 0, 99)) {
            return refused(BAD_NUMBER);
        }
        if (!isGlass(hall.kindAt(cell)) || hall.pivots.find(cell) != NONE) {
            return refused(BLOCKED);
        }
        return added(hall.pivots.add(cell, owner, price));
    }

    public int of(int pivot, int what) {
        return hall.pivots.get(pivot, what);
    }

    public int turn(int pivot) {
        if (!hall.pivots.has(pivot)) {
            return refused(NO_SUCH);
        }
        deeds.turnPivot(pivot);
        return granted(hall.kindAt(hall.pivots.get(pivot, CELL)));
    }

    public int heir(int cell, int age) {
        if (!isCell(cell) || !isWithin(age, 0, 99)) {
            return refused(BAD_NUMBER);
        }
        if (hall.kindAt(cell) != NOTHING) {
            return refused(BLOCKED);
        }
        return added(hall.heirs.add(cell, age, 0));
    }

    public int move(int heir, int cell) {
        if (!isCell(cell)) {
            return refused(BAD_NUMBER);
        }
        if (!hall.heirs.has(heir)) {
            return refused(NO_SUCH);
        }
        if (hall.kindAt(cell) != NOTHING) {
            return refused(BLOCKED);
        }
        int from = hall.heirs.get(heir, CELL);
        deeds.moveHeir(heir, cell);
        return granted(from);
    }

    public int undo() {
        int what = deeds.takeBack();
        return what == NONE ? refused(BLOCKED) : granted(what);
    }

    public int thing(int cell, int worth, int high) {
        if (!isCell(cell) || !isWithin(worth, 1, 99) || !isWithin(high, 0, 9)) {
            return refused(BAD_NUMBER);
        }
        return added(hall.things.add(cell, worth, high));
    }

    public int candle(int cell) {
        if (!isCell(cell)) {
            return refused(BAD_NUMBER);
        }
        return added(hall.candles.add(cell, 0, 0));
    }

    public int terms(int what, int value) {
        if (what < 0 || what >= LEAST_TERMS.length || what >= MOST_TERMS.length
                || !isWithin(value, LEAST_TERMS[what], MOST_TERMS[what])) {
            return refused(BAD_NUMBER);
        }
        int was = hall.term(what);
        hall.setTerm(what, value);
        return granted(was);
    }

    public int feed(int a, int b, int c, int d, int e) {
        if (tapeLength + FED_AT_ONCE > TAPE_ROOM) {
            return NONE;
        }
        append(a);
        append(b);
        append(c);
        append(d);
        append(e);
        return tapeLength;
    }

    public int end(int n) {
        if (n < 0 || n > tapeLength) {
            return NONE;
        }
        tapeLength = n;
        return n;
    }

    public int row() {
        int length = tapeLength;
        tapeLength = 0;
        if (length < 1 || tape[0] >= SIDE) {
            return refused(BAD_TEXT);
        }
        int told = 0;
        for (int x = 0; x < SIDE && x + 1 < length; x++) {
            int cell = tape[0] * SIDE + x;
            int kind = tape[x + 1];
            if (isKind(kind) && hall.mayLay(cell, kind)) {
                hall.lay(cell, kind);
                told++;
            }
        }
        dustCount = length - 1 - told;
        deeds.forgetAll();
        return granted(told);
    }

    public int dust() {
        return dustCount;
    }

    public int law() {
        int length = tapeLength;
        tapeLength = 0;
        if (hall.lawCount >= MOST_LAWS) {
            return refused(NO_ROOM);
        }
        faultPlace = reader.readLaw(length);
        if (faultPlace != NONE) {
            return refused(BAD_TEXT);
        }
        return added(hall.addLaw(reader.draft.trimmed()));
    }

    public int orders() {
        int length = tapeLength;
        tapeLength = 0;
        deeds.stoppedAt = NONE;
        faultPlace = reader.readOrders(length);
        if (faultPlace != NONE) {
            return refused(BAD_TEXT);
        }
        int done = deeds.run(reader.draft);
        return done == NONE ? refused(BLOCKED) : granted(done);
    }

    public int fault() {
        return faultPlace;
    }

    public int stopped() {
        return deeds.stoppedAt;
    }

    public int force(int law) {
        if (law < NONE || law >= hall.lawCount) {
            return refused(NO_SUCH);
        }
        int was = hall.inForce;
        hall.inForce = law;
        return granted(was);
    }

    public int ray(int cell, int direction, int i) {
        if (!isCell(cell) || !isWithin(direction, 0, DIRECTIONS - 1)) {
            return NONE;
        }
        return sight.along(cell, direction, i);
    }

    public int glance(int from, int cell) {
        if (!isCell(from) || !isCell(cell)) {
            return NONE;
        }
        sight.look(from);
        return sight.seenAt(cell);
    }

    public int views(int cell) {
        if (!isCell(cell)) {
            return NONE;
        }
        sight.look(cell);
        return sight.thingsSeen();
    }

    public int pair(int one, int other) {
        if (!hall.heirs.has(one) || !hall.heirs.has(other) || one == other) {
            return NONE;
        }
        return sees(one, other) && sees(other, one) ? 1 : 0;
    }

    public int claim(int heir, int thing, int what) {
        if (!hall.heirs.has(heir) || !hall.things.has(thing)) {
            return NONE;
        }
        divideNow();
        int claimed = shares.claimed(heir, thing);
        int common = greatestDivisor(claimed, shares.total(thing));
        switch (what) {
            case 0: return claimed;
            case 1: return claimed <= 0 || common <= 0 ? 0 : claimed / common;
            case 2: return claimed <= 0 || common <= 0 ? 1 : shares.total(thing) / common;
            default: return NONE;
        }
    }

    public int owner(int thing, int what) {
        if (!hall.things.has(thing) || !isWithin(what, 0, 1)) {
            return NONE;
        }
        divideNow();
        int claimants = shares.claimants(thing);
        if (what == 1) {
            return Integer.bitCount(claimants);
        }
        return Integer.bitCount(claimants) == 1 ? pick(claimants, 0) : NONE;
    }

    public int estate(int heir) {
        if (!hall.heirs.has(heir)) {
            return NONE;
        }
        divideNow();
        return shares.estateOf(heir);
    }

    public int lit(int cell) {
        if (cell == NONE) {
            shares.kindle(hall.candles);
            return shares.rent();
        }
        return isCell(cell) ? sight.fromAny(hall.candles, cell) : NONE;
    }

    public int stand(int n, int what) {
        if (!isWithin(n, 1, 4) || !isWithin(what, 0, n)) {
            return NONE;
        }
        places.coverAll(n);
        return what == 0 ? (int) places.ways : places.firstCell(what - 1);
    }

    public int telling(int from, int cell, int glances) {
        if (!isCell(from) || !isCell(cell) || !isWithin(glances, NONE, MOST_GLANCES)) {
            return refused(BAD_NUMBER);
        }
        return addedCount(hall.tellings.add(from, cell, glances));
    }

    public int turned(int what) {
        if (!isWithin(what, 0, 2)) {
            return NONE;
        }
        sets.fitTellings();
        switch (what) {
            case 0: return sets.fitCount();
            case 1: return sets.fewestBits();
            default: return sets.lowestOfFewest();
        }
    }

    public int hint(int heir, int glances) {
        if (!isWithin(glances, NONE, MOST_GLANCES)) {
            return refused(BAD_NUMBER);
        }
        if (!hall.heirs.has(heir)) {
            return refused(NO_SUCH);
        }
        return addedCount(hall.hints.add(heir, glances, 0));
    }

    public int stranger(int i) {
        return countOrPick(places.strangerCells(), i);
    }

    public int forget() {
        int were = hall.tellings.size + hall.hints.size;
        hall.tellings.clear();
        hall.hints.clear();
        return were;
    }

    public int reveal(int heir, int thing, int g, int what) {
        if (!hall.heirs.has(heir) || !hall.things.has(thing) || !isWithin(what, 0, 1)) {
            return NONE;
        }
        int set = sets.cheapest(hall.heirs.get(heir, CELL), hall.things.get(thing, CELL), g);
        return set == NONE || what == 1 ? set : sets.priceOf(set);
    }

    public int hide(int heir, int thing, int i) {
        if (!hall.heirs.has(heir) || !hall.things.has(thing)) {
            return NONE;
        }
        int from = hall.heirs.get(heir, CELL);
        int cell = hall.things.get(thing, CELL);
        sight.look(from);
        if (sight.seenAt(cell) == NONE) {
            return NONE;
        }
        return countOrPick(places.hidingCells(from, cell), i);
    }

    public int hides(int cell) {
        if (!isCell(cell) || hall.kindAt(cell) != PILLAR) {
            return NONE;
        }
        return places.pairsBehind(cell);
    }

    public int peace(int what) {
        if (!isWithin(what, 0, 2)) {
            return NONE;
        }
        sets.prepare();
        sets.fitPeace();
        switch (what) {
            case 0: return sets.fewestBits();
            case 1: return sets.lowestOfFewest();
            default: return sets.fitCount();
        }
    }

    public int quarrel(int what) {
        if (!isWithin(what, 0, 2)) {
            return NONE;
        }
        sets.prepare();
        boolean ends = sets.argue();
        if (what == 2) {
            return ends ? NONE : sets.steps;
        }
        if (!ends) {
            return NONE;
        }
        return what == 0 ? sets.turns : sets.reached;
    }

    public int draughts(int seed, int n) {
        if (!isWithin(seed, 0, 1000000) || !isWithin(n, 0, 48)) {
            return refused(BAD_NUMBER);
        }
        return granted(wind.blow(seed, n));
    }

    public int drawn(int candle, int what) {
        return wind.lamps.get(candle, what);
    }

    public int image(int k) {
        if (k < 0 || k >= images.length) {
            return refused(BAD_NUMBER);
        }
        if (images[k] == null) {
            images[k] = new Hall();
        }
        images[k].copy(hall);
        return granted(0);
    }

    public int back(int k) {
        if (k < 0 || k >= images.length) {
            return refused(BAD_NUMBER);
        }
        if (images[k] == null) {
            return refused(NO_SUCH);
        }
        hall.copy(images[k]);
        deeds.forgetAll();
        return granted(0);
    }

    public int count(int what) {
        switch (what) {
            case 0: return hall.pivots.size;
            case 1: return hall.heirs.size;
            case 2: return hall.things.size;
            case 3: return hall.candles.size;
            case 4: return hall.lawCount;
            case 5: return hall.tellings.size;
            case 6: return hall.hints.size;
            case 7: return deeds.log.size;
            case 8: return tapeLength;
            case 9: return refusalsBy(BAD_NUMBER);
            case 10: return refusalsBy(NO_SUCH);
            case 11: return refusalsBy(BLOCKED);
            case 12: return refusalsBy(NO_ROOM);
            case 13: return refusalsBy(BAD_TEXT);
            case 14: return hall.inForce;
            case 15: return hall.term(GLANCES);
            case 16: return hall.term(HOUR);
            case 17: return hall.term(DRAUGHT);
            default: return NONE;
        }
    }

    public int status() {
        return latestStatus;
    }

    private int refused(int by) {
        latestStatus = by;
        int place = -1 - by;
        if (place >= 0 && place < refusals.length) {
            refusals[place]++;
        }
        return by;
    }

    private int granted(int answer) {
        latestStatus = 0;
        // Every change of the hall passes here, so the sets are weighed anew only behind one.
        sets.ready = false;
        return answer;
    }

    private int added(int number) {
        return number == NONE ? refused(NO_ROOM) : granted(number);
    }

    private int addedCount(int number) {
        return number == NONE ? refused(NO_ROOM) : granted(number + 1);
    }

    private int refusalsBy(int by) {
        int place = -1 - by;
        return place >= 0 && place < refusals.length ? refusals[place] : NONE;
    }

    private void append(int four) {
        for (int shift = 24; shift >= 0; shift -= 8) {
            if (tapeLength >= 0 && tapeLength < tape.length) {
                tape[tapeLength] = four >> shift & 255;
                tapeLength++;
            }
        }
    }

    private boolean sees(int one, int other) {
        sight.look(hall.heirs.get(one, CELL));
        return sight.seenAt(hall.heirs.get(other, CELL)) != NONE;
    }

    private void divideNow() {
        shares.kindle(hall.candles);
        shares.measure();
    }

    private static int countOrPick(long cells, int i) {
        return i == NONE ? Long.bitCount(cells) : pick(cells, i);
    }

    private static int pick(long cells, int i) {
        int left = i;
        for (int cell = 0; cell < CELLS; cell++) {
            if ((cells >>> cell & 1L) != 0L) {
                if (left == 0) {
                    return cell;
                }
                left--;
            }
        }
        return NONE;
    }

    private static int greatestDivisor(int one, int other) {
        int large = Math.abs(one);
        int small = Math.abs(other);
        for (int left = 64; left > 0 && small > 0; left--) {
            int rest = large % small;
            large = small;
            small = rest;
        }
        return large;
    }

    private static boolean isWithin(int number, int least, int most) {
        return number >= least && number <= most;
    }

    private static boolean isCell(int cell) {
        return cell >= 0 && cell < CELLS;
    }

    private static boolean isKind(int kind) {
        return kind >= NOTHING && kind <= LAST_KIND;
    }

    private static boolean isGlass(int kind) {
        return kind > NOTHING && kind <= LAST_KIND && kind != PILLAR;
    }

    private static int turnedKind(int kind) {
        return kind < PILLAR ? PILLAR - kind : CRACKED + LAST_KIND - kind;
    }

    private static int step(int cell, int direction) {
        switch (direction) {
            case 0: return cell >= SIDE ? cell - SIDE : NONE;
            case 1: return cell % SIDE < SIDE - 1 ? cell + 1 : NONE;
            case 2: return cell < CELLS - SIDE ? cell + SIDE : NONE;
            default: return cell % SIDE > 0 ? cell - 1 : NONE;
        }
    }

    private static int bent(int kind, int direction) {
        boolean rising = kind == 1 || kind == CRACKED;
        return rising ? direction ^ 1 : DIRECTIONS - 1 - direction;
    }

    /** A list of rows of numbers, with room for so many. */
    private static final class Rows {
        private final int[] numbers;
        private final int width;
        private final int most;
        int size;

        Rows(int most, int width) {
            this.most = most;
            this.width = width;
            numbers = new int[Math.max(most * width, 0)];
            size = 0;
        }

        boolean has(int index) {
            return index >= 0 && index < size;
        }

        int get(int index, int column) {
            if (index < 0 || index >= size || column < 0 || column >= width) {
                return NONE;
            }
            int place = index * width + column;
            return place < numbers.length ? numbers[place] : NONE;
        }

        void set(int index, int column, int number) {
            if (index < 0 || index >= size || column < 0 || column >= width) {
                return;
            }
            int place = index * width + column;
            if (place < numbers.length) {
                numbers[place] = number;
            }
        }

        int add(int first, int second, int third) {
            if (size >= most) {
                return NONE;
            }
            int index = size;
            size++;
            set(index, 0, first);
            set(index, 1, second);
            set(index, 2, third);
            return index;
        }

        void drop(int index) {
            if (!has(index)) {
                return;
            }
            for (int place = index * width; place + width < size * width && place + width < numbers.length; place++) {
                numbers[place] = numbers[place + width];
            }
            size--;
        }

        void clear() {
            size = 0;
        }

        int find(int first) {
            for (int index = 0; index < size; index++) {
                if (get(index, 0) == first) {
                    return index;
                }
            }
            return NONE;
        }

        void copy(Rows other) {
            size = Math.min(other.size, most);
            int length = Math.min(numbers.length, other.numbers.length);
            for (int place = 0; place < length; place++) {
                numbers[place] = other.numbers[place];
            }
        }
    }

    /** All that an image keeps. */
    private static final class Hall {
        private final int[] kinds;
        private final int[] termValues;
        final Rows pivots;
        final Rows heirs;
        final Rows things;
        final Rows candles;
        final Rows tellings;
        final Rows hints;
        private final Text[] laws;
        int lawCount;
        int inForce;

        Hall() {
            kinds = new int[CELLS];
            termValues = new int[3];
            termValues[GLANCES] = 3;
            termValues[DRAUGHT] = 2;
            pivots = new Rows(MOST_PIVOTS, 3);
            heirs = new Rows(MOST_HEIRS, 2);
            things = new Rows(MOST_THINGS, 3);
            candles = new Rows(MOST_CANDLES, 1);
            tellings = new Rows(MOST_TELLINGS, 3);
            hints = new Rows(MOST_HINTS, 2);
            laws = new Text[MOST_LAWS];
            lawCount = 0;
            inForce = NONE;
        }

        int kindAt(int cell) {
            return cell >= 0 && cell < kinds.length ? kinds[cell] : NOTHING;
        }

        void setKind(int cell, int kind) {
            if (cell >= 0 && cell < kinds.length) {
                kinds[cell] = kind;
            }
        }

        boolean mayLay(int cell, int kind) {
            return kind == NOTHING || heirs.find(cell) == NONE;
        }

        void lay(int cell, int kind) {
            setKind(cell, kind);
            pivots.drop(pivots.find(cell));
        }

        void flip(int pivot) {
            int cell = pivots.get(pivot, CELL);
            setKind(cell, turnedKind(kindAt(cell)));
        }

        void flipAll(int set) {
            for (int pivot = 0; pivot < pivots.size; pivot++) {
                if ((set >> pivot & 1) != 0) {
                    flip(pivot);
                }
            }
        }

        int term(int what) {
            return what >= 0 && what < termValues.length ? termValues[what] : NONE;
        }

        void setTerm(int what, int value) {
            if (what >= 0 && what < termValues.length) {
                termValues[what] = value;
            }
        }

        int addLaw(Text text) {
            if (lawCount < 0 || lawCount >= laws.length) {
                return NONE;
            }
            laws[lawCount] = text;
            lawCount++;
            return lawCount - 1;
        }

        Text lawInForce() {
            return inForce >= 0 && inForce < lawCount && inForce < laws.length ? laws[inForce] : null;
        }

        void copy(Hall other) {
            for (int cell = 0; cell < kinds.length && cell < other.kinds.length; cell++) {
                kinds[cell] = other.kinds[cell];
            }
            for (int what = 0; what < termValues.length && what < other.termValues.length; what++) {
                termValues[what] = other.termValues[what];
            }
            for (int law = 0; law < laws.length && law < other.laws.length; law++) {
                laws[law] = other.laws[law];
            }
            pivots.copy(other.pivots);
            heirs.copy(other.heirs);
            things.copy(other.things);
            candles.copy(other.candles);
            tellings.copy(other.tellings);
            hints.copy(other.hints);
            lawCount = other.lawCount;
            inForce = other.inForce;
        }
    }

    /** A text that was read: a line for each clause or order, its sums and tests as postfix code. */
    private static final class Text {
        final int[] code;
        final Rows lines;
        int length;
        boolean fogs;
        boolean fogsByGlance;
        boolean looks;

        Text(int room) {
            code = new int[Math.max(room, 0)];
            lines = new Rows(MOST_LINES, LINE_WIDTH);
            length = 0;
            fogs = false;
            fogsByGlance = false;
            looks = false;
        }

        void clear() {
            lines.clear();
            length = 0;
            fogs = false;
            fogsByGlance = false;
            looks = false;
        }

        int emit(int op, int argument) {
            if (length < 0 || length >= code.length) {
                return NONE;
            }
            code[length] = op | argument << CODE_BITS;
            length++;
            return length - 1;
        }

        void aimHere(int jump) {
            if (jump >= 0 && jump < length && jump < code.length) {
                code[jump] = code[jump] & CODE_MASK | length << CODE_BITS;
            }
        }

        Text trimmed() {
            Text text = new Text(length);
            for (int at = 0; at < text.code.length && at < code.length; at++) {
                text.code[at] = code[at];
            }
            text.lines.copy(lines);
            text.length = text.code.length;
            text.fogs = fogs;
            text.fogsByGlance = fogsByGlance;
            text.looks = looks;
            return text;
        }
    }

    /** Reads the tape in both languages by descent; behind a fault no token fits any more. */
    private static final class Reader {
        private static final int AT_END = 0;
        private static final int AT_WORD = 1;
        private static final int AT_NUMBER = 2;
        private static final int AT_SIGN = 3;
        private static final int AT_FAULT = 4;
        private static final int MOST_PARTS = 50;
        private static final int MOST_BRACKETS = 8;
        private static final int MOST_NUMBER = 1000;
        private static final int MOST_TIMES = 20;

        private final int[] bytes;
        final Text draft;
        private int length;
        private int start;
        private int next;
        private int sort;
        private int number;
        private int faultAt;
        private int parts;
        private int brackets;
        private boolean lawful;
        private boolean fogging;

        Reader(int[] bytes) {
            this.bytes = bytes;
            draft = new Text(bytes.length);
            length = 0;
            start = 0;
            next = 0;
            sort = AT_END;
            number = 0;
            faultAt = NONE;
            parts = 0;
            brackets = 0;
            lawful = true;
            fogging = false;
        }

        int readLaw(int upTo) {
            begin(upTo, true);
            for (int line = 0; line < MOST_LINES; line++) {
                clause(draft.lines.add(NONE, draft.length, draft.length));
                condition(line);
                if (!take(";")) {
                    return finish();
                }
            }
            return fail();
        }

        int readOrders(int upTo) {
            begin(upTo, false);
            for (int line = 0; line < MOST_LINES; line++) {
                order(draft.lines.add(NONE, draft.length, draft.length));
                condition(line);
                if (!take(";")) {
                    return finish();
                }
            }
            return fail();
        }

        private void begin(int upTo, boolean asLaw) {
            length = Math.max(0, Math.min(upTo, bytes.length));
            lawful = asLaw;
            draft.clear();
            next = 0;
            faultAt = NONE;
            parts = 0;
            brackets = 0;
            sort = AT_END;
            fogging = false;
            advance();
        }

        private int finish() {
            return sort == AT_END ? faultAt : fail();
        }

        private int fail() {
            if (faultAt == NONE) {
                faultAt = start;
            }
            sort = AT_FAULT;
            return faultAt;
        }

        private void clause(int line) {
            fogging = is("fogs");
            if (take("claims")) {
                draft.lines.set(line, VERB, CLAIMS);
                sum();
            } else if (take("fogs")) {
                draft.lines.set(line, VERB, FOGS);
                draft.fogs = true;
            } else if (take("bars")) {
                draft.lines.set(line, VERB, BARS);
            } else {
                fail();
            }
            draft.lines.set(line, TIMES, 1);
        }

        private void order(int line) {
            if (take("turn")) {
                draft.lines.set(line, VERB, TURN);
                sum();
                draft.lines.set(line, SECOND, draft.length);
            } else if (take("move")) {
                draft.lines.set(line, VERB, MOVE);
                sum();
                draft.lines.set(line, SECOND, draft.length);
                if (!take("to")) {
                    fail();
                }
                sum();
            } else if (take("wait")) {
                draft.lines.set(line, VERB, WAIT);
            } else {
                fail();
            }
            draft.lines.set(line, TIMES, take("times") ? written(1, MOST_TIMES) : 1);
        }

        private void condition(int line) {
            draft.lines.set(line, TEST, draft.length);
            if (take("if")) {
                test();
            }
            draft.lines.set(line, CLOSE, draft.length);
        }

        private void test() {
            both();
            for (int left = length; left > 0 && take("or"); left--) {
                int jump = draft.emit(OR, 0);
                both();
                draft.aimHere(jump);
            }
        }

        private void both() {
            plain();
            for (int left = length; left > 0 && take("and"); left--) {
                int jump = draft.emit(AND, 0);
                plain();
                draft.aimHere(jump);
            }
        }

        private void plain() {
            boolean negated = false;
            for (int left = length; left > 0 && take("not"); left--) {
                negated = !negated;
            }
            if (opens("(")) {
                test();
                closes(")");
            } else {
                sum();
                int op = take("<") ? LESS : take(">") ? MORE : take("=") ? SAME : NONE;
                if (op == NONE) {
                    fail();
                }
                sum();
                draft.emit(op & CODE_MASK, 0);
            }
            if (negated) {
                draft.emit(NOT, 0);
            }
        }

        private void sum() {
            term();
            for (int left = length; left > 0; left--) {
                int op = take("+") ? ADD : take("-") ? SUBTRACT : NONE;
                if (op == NONE) {
                    return;
                }
                term();
                draft.emit(op, 0);
            }
        }

        private void term() {
            part();
            for (int left = length; left > 0; left--) {
                int op = take("*") ? MULTIPLY : take("/") ? DIVIDE : take("%") ? REMAINDER : NONE;
                if (op == NONE) {
                    return;
                }
                part();
                draft.emit(op, 0);
            }
        }

        private void part() {
            if (opens("[")) {
                sum();
                closes("]");
                return;
            }
            boolean numeral = sort == AT_NUMBER && number <= MOST_NUMBER;
            int slot = numeral || sort != AT_WORD ? NONE : lawful ? lawWord() : orderWord();
            if (parts >= MOST_PARTS || !numeral && slot == NONE) {
                fail();
                return;
            }
            parts++;
            int value = number;
            advance();
            if (!lawful && slot == BY_ESTATE) {
                slot += written(0, MOST_HEIRS - 1);
            } else if (!lawful && slot == BY_SEES) {
                slot += written(0, MOST_HEIRS - 1) * MOST_THINGS;
                slot += written(0, MOST_THINGS - 1);
            }
            draft.emit(numeral ? PUSH_NUMBER : PUSH_SLOT, numeral ? value : slot);
        }

        private int lawWord() {
            if (is("x")) return OF_X;
            if (is("y")) return OF_Y;
            if (is("glance")) {
                draft.fogsByGlance |= fogging;
                return OF_GLANCE;
            }
            if (is("hour")) return OF_HOUR;
            if (is("heir")) return OF_HEIR;
            if (is("age")) return OF_AGE;
            if (is("thing")) return OF_THING;
            if (is("worth")) return OF_WORTH;
            if (is("high")) return OF_HIGH;
            if (is("lit")) {
                draft.looks = true;
                return OF_LIT;
            }
            return NONE;
        }

        private int orderWord() {
            if (is("hour")) return BY_HOUR;
            if (is("pivots")) return BY_PIVOTS;
            if (is("done")) return BY_DONE;
            int slot = is("rent") ? BY_RENT : is("estate") ? BY_ESTATE : is("sees") ? BY_SEES : NONE;
            draft.looks |= slot != NONE;
            return slot;
        }

        private int written(int least, int most) {
            if (sort != AT_NUMBER || number < least || number > most) {
                fail();
                return least;
            }
            int value = number;
            advance();
            return value;
        }

        private boolean opens(String sign) {
            if (!is(sign)) {
                return false;
            }
            if (brackets >= MOST_BRACKETS) {
                fail();
                return false;
            }
            brackets++;
            advance();
            return true;
        }

        private void closes(String sign) {
            brackets--;
            if (is(sign)) {
                advance();
            } else {
                fail();
            }
        }

        private boolean take(String token) {
            if (!is(token)) {
                return false;
            }
            advance();
            return true;
        }

        private boolean is(String token) {
            if (sort != AT_WORD && sort != AT_SIGN || next - start != token.length()) {
                return false;
            }
            for (int i = 0; i < token.length(); i++) {
                if (byteAt(start + i) != token.charAt(i)) {
                    return false;
                }
            }
            return true;
        }

        private void advance() {
            for (int left = length; left > 0 && byteAt(next) == ' '; left--) {
                next++;
            }
            start = next;
            int first = byteAt(start);
            if (first == NONE) {
                sort = AT_END;
            } else if (isLetter(first)) {
                sort = AT_WORD;
                for (int left = length; left > 0 && isLetter(byteAt(next)); left--) {
                    next++;
                }
            } else if (isDigit(first)) {
                sort = AT_NUMBER;
                number = 0;
                for (int left = length; left > 0 && isDigit(byteAt(next)); left--) {
                    number = Math.min(number * 10 + byteAt(next) - '0', MOST_NUMBER + 1);
                    next++;
                }
            } else {
                sort = AT_SIGN;
                next++;
            }
        }

        private int byteAt(int place) {
            return place >= 0 && place < length && place < bytes.length ? bytes[place] : NONE;
        }

        private static boolean isLetter(int sign) {
            return sign >= 'a' && sign <= 'z';
        }

        private static boolean isDigit(int sign) {
            return sign >= '0' && sign <= '9';
        }
    }

    /** What the words of a text stand for just now, and the stack on which its code is worked out. */
    private static final class Slate {
        private final int[] slots;
        private final int[] stack;

        Slate(int size, int first) {
            int[] values = new int[Math.max(size, 0)];
            Arrays.fill(values, first);
            slots = values;
            stack = new int[CELLS];
        }

        void set(int slot, int value) {
            if (slot >= 0 && slot < slots.length) {
                slots[slot] = value;
            }
        }

        /** Without any code the answer is 1: a test that was not written is so. */
        int value(Text text, int from, int to) {
            if (from < 0 || from >= to || to > text.code.length) {
                return 1;
            }
            int depth = 0;
            for (int at = from; at < to; at++) {
                int op = text.code[at] & CODE_MASK;
                int argument = text.code[at] >> CODE_BITS;
                if (op == PUSH_NUMBER || op == PUSH_SLOT) {
                    if (depth >= stack.length || op == PUSH_SLOT && (argument < 0 || argument >= slots.length)) {
                        return BROKEN;
                    }
                    stack[depth] = op == PUSH_NUMBER ? argument : slots[argument];
                    depth++;
                } else if (depth < 1) {
                    return BROKEN;
                } else if (op == NOT) {
                    stack[depth - 1] = 1 - stack[depth - 1];
                } else if (op == AND || op == OR) {
                    boolean settled = stack[depth - 1] == (op == OR ? 1 : 0);
                    if (settled && argument > at) {
                        at = argument - 1;
                    } else {
                        depth--;
                    }
                } else if (depth < 2) {
                    return BROKEN;
                } else {
                    depth--;
                    stack[depth - 1] = combined(op, stack[depth - 1], stack[depth]);
                    if (stack[depth - 1] == BROKEN) {
                        return BROKEN;
                    }
                }
            }
            return depth < 1 ? BROKEN : stack[depth - 1];
        }

        private static int combined(int op, long left, long right) {
            long result;
            switch (op) {
                case ADD: result = left + right; break;
                case SUBTRACT: result = left - right; break;
                case MULTIPLY: result = left * right; break;
                case DIVIDE:
                    if (right == 0L) {
                        return BROKEN;
                    }
                    result = left / right;
                    break;
                case REMAINDER:
                    if (right == 0L) {
                        return BROKEN;
                    }
                    result = left % right;
                    break;
                case LESS: result = left < right ? 1L : 0L; break;
                case MORE: result = left > right ? 1L : 0L; break;
                default: result = left == right ? 1L : 0L; break;
            }
            return result > FARTHEST || result < -FARTHEST ? BROKEN : (int) result;
        }
    }

    /** Looking from one cell; what fog says is kept while law and hour stay. */
    private static final class Sight {
        private static final int UNKNOWN = 0;
        private static final int CLEAR = 1;
        private static final int FOGGED = 2;
        private static final int FOG_WIDTH = MOST_GLANCES + 1;
        // Each cell is left once by each direction and glance behind the first, and four times at first.
        private static final int MOST_BEAMS = CELLS * DIRECTIONS * (MOST_GLANCES - 1) + DIRECTIONS;

        private final Hall hall;
        private final Slate slate;
        private final int[] seen;
        private final int[] been;
        private final int[] beams;
        private final int[] fog;
        private int beamCount;
        long met;
        private Text fogLaw;
        private int fogHour;
        private boolean foggy;
        private boolean shifting;

        Sight(Hall hall) {
            this.hall = hall;
            slate = new Slate(LAW_SLOTS, NONE);
            seen = new int[CELLS];
            been = new int[CELLS];
            beams = new int[MOST_BEAMS];
            fog = new int[CELLS * FOG_WIDTH];
            beamCount = 0;
            met = 0L;
            fogLaw = null;
            fogHour = NONE;
            foggy = false;
            shifting = false;
        }

        void look(int from) {
            begin(from);
            int most = hall.term(GLANCES);
            for (int next = 0; next < beamCount && next < beams.length; next++) {
                int cell = beams[next] & 63;
                int direction = beams[next] >> 6 & 3;
                int glance = beams[next] >> 8;
                for (int left = SIDE; left > 0; left--) {
                    cell = step(cell, direction);
                    if (!comesTo(cell, direction, glance)) {
                        break;
                    }
                    int kind = hall.kindAt(cell);
                    if (isGlass(kind) && glance < most && !fogged(cell, glance)) {
                        met |= 1L << cell;
                        send(cell, bent(kind, direction), glance + 1);
                    }
                    if (kind != NOTHING && kind < CRACKED) {
                        break;
                    }
                }
            }
        }

        private void begin(int from) {
            settleFog();
            Arrays.fill(seen, NONE);
            Arrays.fill(been, 0);
            met = 0L;
            beamCount = 0;
            if (from < 0 || from >= seen.length) {
                return;
            }
            seen[from] = 0;
            for (int direction = 0; direction < DIRECTIONS; direction++) {
                send(from, direction, 1);
            }
        }

        private void send(int cell, int direction, int glance) {
            if (beamCount >= 0 && beamCount < beams.length) {
                beams[beamCount] = cell | direction << 6 | glance << 8;
                beamCount++;
            }
        }

        /** Beams go by rising glances, so the first that comes to a cell tells how it is seen. */
        private boolean comesTo(int cell, int direction, int glance) {
            if (cell < 0 || cell >= seen.length || cell >= been.length) {
                return false;
            }
            // Only fog by glances may let a later glance through where it stopped an earlier one.
            int mark = shifting ? 1 << direction * MOST_GLANCES + glance - 1 : 1 << direction;
            if ((been[cell] & mark) != 0) {
                return false;
            }
            been[cell] |= mark;
            if (seen[cell] == NONE) {
                seen[cell] = glance;
            }
            return true;
        }

        int seenAt(int cell) {
            return cell >= 0 && cell < seen.length ? seen[cell] : NONE;
        }

        int thingsSeen() {
            int bits = 0;
            for (int thing = 0; thing < hall.things.size; thing++) {
                if (seenAt(hall.things.get(thing, CELL)) != NONE) {
                    bits |= 1 << thing;
                }
            }
            return bits;
        }

        int fromAny(Rows lamps, int cell) {
            int fewest = NONE;
            for (int lamp = 0; lamp < lamps.size; lamp++) {
                look(lamps.get(lamp, CELL));
                int by = seenAt(cell);
                if (by != NONE && (fewest == NONE || by < fewest)) {
                    fewest = by;
                }
            }
            return fewest;
        }

        int along(int from, int towards, int i) {
            settleFog();
            int direction = towards;
            int glance = 1;
            int come = 0;
            int cell = step(from, direction);
            for (int left = CELLS; left > 0 && cell != NONE; left--) {
                if (come == i) {
                    return cell;
                }
                come++;
                int kind = hall.kindAt(cell);
                boolean glass = isGlass(kind);
                if (kind == PILLAR || glass && (glance >= hall.term(GLANCES) || fogged(cell, glance))) {
                    break;
                }
                if (glass) {
                    direction = bent(kind, direction);
                    glance++;
                }
                cell = step(cell, direction);
            }
            return i == NONE ? come : NONE;
        }

        private void settleFog() {
            Text law = hall.lawInForce();
            int hour = hall.term(HOUR);
            foggy = law != null && law.fogs;
            shifting = foggy && law.fogsByGlance;
            if (foggy && (law != fogLaw || hour != fogHour)) {
                fogLaw = law;
                fogHour = hour;
                Arrays.fill(fog, UNKNOWN);
            }
        }

        private boolean fogged(int cell, int glance) {
            int place = cell * FOG_WIDTH + glance;
            if (!foggy || fogLaw == null || place < 0 || place >= fog.length) {
                return false;
            }
            if (fog[place] != UNKNOWN) {
                return fog[place] == FOGGED;
            }
            slate.set(OF_X, cell % SIDE);
            slate.set(OF_Y, cell / SIDE);
            slate.set(OF_GLANCE, glance);
            slate.set(OF_HOUR, fogHour);
            fog[place] = CLEAR;
            Rows lines = fogLaw.lines;
            for (int line = 0; line < lines.size && fog[place] == CLEAR; line++) {
                if (lines.get(line, VERB) == FOGS
                        && slate.value(fogLaw, lines.get(line, TEST), lines.get(line, CLOSE)) == 1) {
                    fog[place] = FOGGED;
                }
            }
            return fog[place] == FOGGED;
        }
    }

    /** Who claims what, and what it is worth to whom. */
    private static final class Shares {
        // A glimpse: three bits for each thing (its glance and 1), then heirs seen, then pivots that mattered.
        private static final int THING_BITS = 3;
        private static final int HEIRS_AT = 36;
        private static final int PIVOTS_AT = 42;

        private final Hall hall;
        private final Sight sight;
        private final Slate slate;
        final long[] glimpses;
        private final int[] claims;
        private final int[] totals;
        private final int[] estates;
        int litThings;

        Shares(Hall hall, Sight sight) {
            this.hall = hall;
            this.sight = sight;
            slate = new Slate(LAW_SLOTS, NONE);
            glimpses = new long[MOST_HEIRS];
            claims = new int[MOST_HEIRS * MOST_THINGS];
            totals = new int[MOST_THINGS];
            estates = new int[MOST_HEIRS];
            litThings = 0;
        }

        void kindle(Rows lamps) {
            litThings = 0;
            for (int lamp = 0; lamp < lamps.size; lamp++) {
                sight.look(lamps.get(lamp, CELL));
                litThings |= sight.thingsSeen();
            }
        }

        int rent() {
            int sum = 0;
            for (int thing = 0; thing < hall.things.size; thing++) {
                if ((litThings >> thing & 1) != 0) {
                    sum += hall.things.get(thing, WORTH);
                }
            }
            return sum;
        }

        /** Wants kindle() ahead of it, as laws may ask what is lit. */
        void measure() {
            for (int heir = 0; heir < hall.heirs.size && heir < glimpses.length; heir++) {
                sight.look(hall.heirs.get(heir, CELL));
                glimpses[heir] = packed();
            }
            divide();
        }

        long packed() {
            long glimpse = 0L;
            for (int thing = 0; thing < hall.things.size; thing++) {
                long by = sight.seenAt(hall.things.get(thing, CELL)) + 1;
                glimpse |= by << thing * THING_BITS;
            }
            for (int heir = 0; heir < hall.heirs.size; heir++) {
                if (sight.seenAt(hall.heirs.get(heir, CELL)) != NONE) {
                    glimpse |= 1L << HEIRS_AT + heir;
                }
            }
            return glimpse | (long) metPivots() << PIVOTS_AT;
        }

        int metPivots() {
            int bits = 0;
            for (int pivot = 0; pivot < hall.pivots.size; pivot++) {
                if ((sight.met >>> hall.pivots.get(pivot, CELL) & 1L) != 0L) {
                    bits |= 1 << pivot;
                }
            }
            return bits;
        }

        int seenBy(int heir, int thing) {
            if (heir < 0 || heir >= hall.heirs.size || heir >= glimpses.length
                    || thing < 0 || thing >= hall.things.size) {
                return NONE;
            }
            return (int) (glimpses[heir] >>> thing * THING_BITS & 7L) - 1;
        }

        private boolean inPair(int heir) {
            for (int other = 0; other < hall.heirs.size && other < glimpses.length && heir < glimpses.length; other++) {
                if (other != heir && (glimpses[heir] >>> HEIRS_AT + other & 1L) != 0L
                        && (glimpses[other] >>> HEIRS_AT + heir & 1L) != 0L) {
                    return true;
                }
            }
            return false;
        }

        void divide() {
            Arrays.fill(claims, 0);
            Arrays.fill(totals, 0);
            for (int heir = 0; heir < hall.heirs.size; heir++) {
                if (inPair(heir)) {
                    continue;
                }
                for (int thing = 0; thing < hall.things.size && thing < totals.length; thing++) {
                    int place = heir * MOST_THINGS + thing;
                    if (place < claims.length && seenBy(heir, thing) != NONE) {
                        claims[place] = asked(heir, thing);
                        totals[thing] += claims[place];
                    }
                }
            }
            for (int heir = 0; heir < hall.heirs.size && heir < estates.length; heir++) {
                estates[heir] = 0;
                for (int thing = 0; thing < hall.things.size; thing++) {
                    int total = total(thing);
                    if (total > 0) {
                        estates[heir] += hall.things.get(thing, WORTH) * 1000 * claimed(heir, thing) / total;
                    }
                }
            }
        }

        /** What the law in force tells a heir to claim of a thing that he sees; 0 if he is barred. */
        private int asked(int heir, int thing) {
            Text law = hall.lawInForce();
            if (law == null) {
                return 1;
            }
            describe(heir, thing);
            int claim = 1;
            Rows lines = law.lines;
            for (int line = 0; line < lines.size; line++) {
                int verb = lines.get(line, VERB);
                int test = lines.get(line, TEST);
                if (verb == FOGS || slate.value(law, test, lines.get(line, CLOSE)) != 1) {
                    continue;
                }
                if (verb == BARS) {
                    return 0;
                }
                int told = slate.value(law, lines.get(line, FIRST), test);
                if (told != BROKEN) {
                    claim = Math.max(0, Math.min(999, told));
                }
            }
            return claim;
        }

        private void describe(int heir, int thing) {
            int cell = hall.things.get(thing, CELL);
            slate.set(OF_X, cell % SIDE);
            slate.set(OF_Y, cell / SIDE);
            slate.set(OF_GLANCE, seenBy(heir, thing));
            slate.set(OF_HOUR, hall.term(HOUR));
            slate.set(OF_HEIR, heir);
            slate.set(OF_AGE, hall.heirs.get(heir, AGE));
            slate.set(OF_THING, thing);
            slate.set(OF_WORTH, hall.things.get(thing, WORTH));
            slate.set(OF_HIGH, hall.things.get(thing, HIGH));
            slate.set(OF_LIT, litThings >> thing & 1);
        }

        int claimed(int heir, int thing) {
            int place = heir * MOST_THINGS + thing;
            return place >= 0 && place < claims.length ? claims[place] : 0;
        }

        int total(int thing) {
            return thing >= 0 && thing < totals.length ? totals[thing] : 0;
        }

        int claimants(int thing) {
            int bits = 0;
            for (int heir = 0; heir < hall.heirs.size; heir++) {
                if (claimed(heir, thing) > 0) {
                    bits |= 1 << heir;
                }
            }
            return bits;
        }

        int estateOf(int heir) {
            return heir >= 0 && heir < hall.heirs.size && heir < estates.length ? estates[heir] : 0;
        }
    }

    /** All sets of pivots that could be turned, and what would be so by each. */
    private static final class Sets {
        private static final int SEEN_BITS = 4;
        private static final int SEEN_MASK = 15;

        private final Hall hall;
        private final Sight sight;
        private final Shares shares;
        private final long[] glimpses;
        private final int[] lights;
        private final int[] estates;
        private final int[] traces;
        private final int[] fits;
        private final int[] passed;
        boolean ready;
        int turns;
        int reached;
        int steps;

        Sets(Hall hall, Sight sight, Shares shares) {
            this.hall = hall;
            this.sight = sight;
            this.shares = shares;
            glimpses = new long[MOST_SETS * MOST_HEIRS];
            lights = new int[MOST_SETS];
            estates = new int[MOST_SETS * MOST_HEIRS];
            traces = new int[MOST_SETS];
            fits = new int[MOST_SETS];
            passed = new int[MOST_SETS];
            ready = false;
            turns = 0;
            reached = 0;
            steps = 0;
        }

        private int setCount() {
            return Math.min(MOST_SETS, 1 << hall.pivots.size);
        }

        /** The estates of all heirs by each set, unless they are known already. */
        void prepare() {
            if (ready) {
                return;
            }
            Text law = hall.lawInForce();
            boolean asksLight = law != null && law.looks;
            Arrays.fill(lights, 0);
            for (int set = 0; set < setCount(); set++) {
                hall.flipAll(set);
                if (asksLight) {
                    lightIn(set);
                }
                for (int heir = 0; heir < hall.heirs.size; heir++) {
                    glimpseIn(set, heir);
                }
                estatesIn(set);
                hall.flipAll(set);
            }
            ready = true;
        }

        /** Looks only if each pivot of the set mattered where it alone was not turned. */
        private void glimpseIn(int set, int heir) {
            int place = set * MOST_HEIRS + heir;
            if (place < 0 || place >= glimpses.length) {
                return;
            }
            for (int pivot = 0; pivot < hall.pivots.size; pivot++) {
                int near = (set & ~(1 << pivot)) * MOST_HEIRS + heir;
                if (near >= 0 && near < place && (glimpses[near] >>> Shares.PIVOTS_AT + pivot & 1L) == 0L) {
                    glimpses[place] = glimpses[near];
                    return;
                }
            }
            sight.look(hall.heirs.get(heir, CELL));
            glimpses[place] = shares.packed();
        }

        private void lightIn(int set) {
            if (set < 0 || set >= lights.length) {
                return;
            }
            shares.kindle(hall.candles);
            lights[set] = shares.litThings;
        }

        private void estatesIn(int set) {
            int place = set * MOST_HEIRS;
            if (set < 0 || set >= lights.length || place + MOST_HEIRS > estates.length
                    || place + MOST_HEIRS > glimpses.length) {
                return;
            }
            int near = sameAs(set);
            if (near != NONE) {
                for (int heir = 0; heir < MOST_HEIRS; heir++) {
                    estates[place + heir] = estateIn(near, heir);
                }
                return;
            }
            for (int heir = 0; heir < MOST_HEIRS && heir < shares.glimpses.length; heir++) {
                shares.glimpses[heir] = glimpses[place + heir];
            }
            shares.litThings = lights[set];
            shares.divide();
            for (int heir = 0; heir < MOST_HEIRS; heir++) {
                estates[place + heir] = shares.estateOf(heir);
            }
        }

        /** A lesser set, by one pivot, by which all see the same and the same is lit. */
        private int sameAs(int set) {
            for (int pivot = 0; pivot < hall.pivots.size; pivot++) {
                int near = set & ~(1 << pivot);
                boolean same = near < set && near >= 0 && set < lights.length && lights[near] == lights[set];
                for (int heir = 0; heir < hall.heirs.size && same; heir++) {
                    int place = set * MOST_HEIRS + heir;
                    int nearPlace = near * MOST_HEIRS + heir;
                    same = place < glimpses.length && nearPlace >= 0 && nearPlace < place
                            && glimpses[place] == glimpses[nearPlace];
                }
                if (same) {
                    return near;
                }
            }
            return NONE;
        }

        private int estateIn(int set, int heir) {
            int place = set * MOST_HEIRS + heir;
            return place >= 0 && place < estates.length ? estates[place] : 0;
        }

        /** By how many glances the cell is seen by each set, with the pivots that mattered. */
        private void trace(int from, int cell) {
            for (int set = 0; set < setCount() && set < traces.length; set++) {
                int near = NONE;
                for (int pivot = 0; pivot < hall.pivots.size && near == NONE; pivot++) {
                    int less = set & ~(1 << pivot);
                    if (less >= 0 && less < set && (traces[less] >> SEEN_BITS + pivot & 1) == 0) {
                        near = less;
                    }
                }
                if (near >= 0 && near < set) {
                    traces[set] = traces[near];
                } else {
                    hall.flipAll(set);
                    sight.look(from);
                    traces[set] = sight.seenAt(cell) + 1 | shares.metPivots() << SEEN_BITS;
                    hall.flipAll(set);
                }
            }
        }

        private int traced(int set) {
            return set >= 0 && set < traces.length ? (traces[set] & SEEN_MASK) - 1 : NONE;
        }

        void fitTellings() {
            Arrays.fill(fits, 1);
            for (int telling = 0; telling < hall.tellings.size; telling++) {
                trace(hall.tellings.get(telling, 0), hall.tellings.get(telling, 1));
                int told = hall.tellings.get(telling, 2);
                for (int set = 0; set < setCount() && set < fits.length; set++) {
                    fits[set] &= traced(set) == told ? 1 : 0;
                }
            }
        }

        void fitPeace() {
            for (int set = 0; set < setCount() && set < fits.length; set++) {
                fits[set] = 1;
                for (int heir = 0; heir < hall.heirs.size && fits[set] == 1; heir++) {
                    fits[set] = wish(set, heir) == NONE ? 1 : 0;
                }
            }
        }

        /** The own pivot by which a heir's estate would get greatest, if greater than it is. */
        private int wish(int set, int heir) {
            int best = NONE;
            int most = estateIn(set, heir);
            for (int pivot = 0; pivot < hall.pivots.size; pivot++) {
                if (hall.pivots.get(pivot, OWNER) == heir && estateIn(set ^ 1 << pivot, heir) > most) {
                    best = pivot;
                    most = estateIn(set ^ 1 << pivot, heir);
                }
            }
            return best;
        }

        int fitCount() {
            int sum = 0;
            for (int set = 0; set < setCount() && set < fits.length; set++) {
                sum += fits[set];
            }
            return sum;
        }

        int lowestOfFewest() {
            int best = NONE;
            for (int set = 0; set < setCount() && set < fits.length; set++) {
                if (fits[set] == 1 && (best == NONE || Integer.bitCount(set) < Integer.bitCount(best))) {
                    best = set;
                }
            }
            return best;
        }

        int fewestBits() {
            int best = lowestOfFewest();
            return best == NONE ? NONE : Integer.bitCount(best);
        }

        int cheapest(int from, int cell, int atMost) {
            trace(from, cell);
            int best = NONE;
            for (int set = 0; set < setCount(); set++) {
                int by = traced(set);
                if (by != NONE && by <= atMost && (best == NONE || priceOf(set) < priceOf(best))) {
                    best = set;
                }
            }
            return best;
        }

        int priceOf(int set) {
            int price = 0;
            for (int pivot = 0; pivot < hall.pivots.size; pivot++) {
                if ((set >> pivot & 1) != 0) {
                    price += hall.pivots.get(pivot, PRICE);
                }
            }
            return price;
        }

        /** A quarrel, on paper: whether it ends. */
        boolean argue() {
            Arrays.fill(passed, 0);
            turns = 0;
            reached = 0;
            steps = 0;
            int heirs = hall.heirs.size;
            int heir = 0;
            int idle = 0;
            for (int left = MOST_SETS * MOST_HEIRS + 1; left > 0 && idle < heirs; left--) {
                if (reached < 0 || reached >= passed.length || (passed[reached] >> heir & 1) != 0) {
                    return false;
                }
                passed[reached] |= 1 << heir;
                int pivot = wish(reached, heir);
                if (pivot == NONE) {
                    idle++;
                } else {
                    reached ^= 1 << pivot;
                    turns++;
                    idle = 0;
                }
                steps++;
                heir = heir + 1 < heirs ? heir + 1 : 0;
            }
            return true;
        }
    }

    /** Questions of where: to stand, the stranger, what pillars hide; sets of cells are bits of a long. */
    private static final class Places {
        private final Hall hall;
        private final Sight sight;
        private final int[] masks;
        private final int[] sizes;
        private final int[] firsts;
        private int groups;
        private int all;
        private long blanks;
        long ways;
        private long best;

        Places(Hall hall, Sight sight) {
            this.hall = hall;
            this.sight = sight;
            masks = new int[CELLS];
            sizes = new int[CELLS];
            firsts = new int[CELLS];
            groups = 0;
            all = 0;
            blanks = 0L;
            ways = 0L;
            best = 0L;
        }

        void coverAll(int n) {
            groups = 0;
            blanks = 0L;
            all = (1 << hall.things.size) - 1;
            for (int cell = 0; cell < CELLS; cell++) {
                if (hall.kindAt(cell) == NOTHING) {
                    sight.look(cell);
                    group(cell, sight.thingsSeen());
                }
            }
            ways = 0L;
            best = 0L;
            cover(0, n, 1L, 0L);
        }

        /** Cells from which the same things are seen are counted together, under the first of them. */
        private void group(int cell, int mask) {
            if (mask == 0) {
                blanks |= 1L << cell;
                return;
            }
            int found = 0;
            while (found < groups && found < masks.length && masks[found] != mask) {
                found++;
            }
            if (found >= masks.length || found >= sizes.length || found >= firsts.length) {
                return;
            }
            if (found == groups) {
                masks[found] = mask;
                sizes[found] = 0;
                firsts[found] = cell;
                groups++;
            }
            sizes[found]++;
        }

        /** The lowest thing that is not covered yet is covered by one of the groups that see it. */
        private void cover(int covered, int left, long product, long chosen) {
            if (covered == all) {
                rest(left, product, chosen);
                return;
            }
            if (left <= 0) {
                return;
            }
            int open = all & ~covered;
            int lowest = open & -open;
            for (int i = 0; i < groups && i < masks.length && i < sizes.length && i < firsts.length; i++) {
                if ((masks[i] & lowest) != 0 && (masks[i] & covered) == 0) {
                    cover(covered | masks[i], left - 1, product * sizes[i], chosen | 1L << firsts[i]);
                }
            }
        }

        private void rest(int left, long product, long chosen) {
            long more = chosen;
            long choices = product;
            long free = blanks;
            int freeCount = Long.bitCount(blanks);
            for (int i = 0; i < left; i++) {
                choices *= freeCount - i;
                more |= free & -free;
                free &= free - 1L;
            }
            for (int i = 2; i <= left; i++) {
                choices /= i;
            }
            if (freeCount < left || choices <= 0L) {
                return;
            }
            // Of two sets of as many cells that one is first which has the lowest cell that is not in both.
            long unlike = more ^ best;
            if (ways == 0L || (more & unlike & -unlike) != 0L) {
                best = more;
            }
            ways += choices;
        }

        int firstCell(int i) {
            return ways == 0L ? NONE : pick(best, i);
        }

        long strangerCells() {
            long cells = 0L;
            for (int cell = 0; cell < CELLS; cell++) {
                if (hall.kindAt(cell) == NOTHING) {
                    cells |= 1L << cell;
                }
            }
            for (int hint = 0; hint < hall.hints.size; hint++) {
                sight.look(hall.heirs.get(hall.hints.get(hint, 0), CELL));
                int by = hall.hints.get(hint, 1);
                for (int cell = 0; cell < CELLS; cell++) {
                    if (sight.seenAt(cell) != by) {
                        cells &= ~(1L << cell);
                    }
                }
            }
            return cells;
        }

        /** Wants a look from the first cell ahead of it: what is not seen hides nothing. */
        long hidingCells(int from, int hidden) {
            long tried = 0L;
            for (int cell = 0; cell < CELLS; cell++) {
                if (hall.kindAt(cell) == NOTHING && sight.seenAt(cell) != NONE
                        && hall.heirs.find(cell) == NONE && hall.things.find(cell) == NONE) {
                    tried |= 1L << cell;
                }
            }
            long cells = 0L;
            for (int cell = 0; cell < CELLS; cell++) {
                if ((tried >>> cell & 1L) != 0L) {
                    hall.setKind(cell, PILLAR);
                    sight.look(from);
                    hall.setKind(cell, NOTHING);
                    if (sight.seenAt(hidden) == NONE) {
                        cells |= 1L << cell;
                    }
                }
            }
            return cells;
        }

        int pairsBehind(int pillar) {
            int pairs = 0;
            for (int heir = 0; heir < hall.heirs.size; heir++) {
                int from = hall.heirs.get(heir, CELL);
                sight.look(from);
                int seen = sight.thingsSeen();
                hall.setKind(pillar, NOTHING);
                sight.look(from);
                hall.setKind(pillar, PILLAR);
                pairs += Integer.bitCount(sight.thingsSeen() & ~seen);
            }
            return pairs;
        }
    }

    /** Candles moved by draughts, on paper. */
    private static final class Wind {
        private static final int WENT = 1;

        private final Hall hall;
        private final Shares shares;
        final Rows lamps;
        private int state;

        Wind(Hall hall, Shares shares) {
            this.hall = hall;
            this.shares = shares;
            lamps = new Rows(MOST_CANDLES, 2);
            state = 0;
        }

        int blow(int seed, int hours) {
            state = seed;
            lamps.clear();
            for (int candle = 0; candle < hall.candles.size; candle++) {
                lamps.add(hall.candles.get(candle, CELL), 0, 0);
            }
            int now = hall.term(HOUR);
            int rents = 0;
            for (int i = 1; i <= hours; i++) {
                for (int candle = 0; candle < lamps.size; candle++) {
                    drift(candle);
                }
                hall.setTerm(HOUR, (now + i) % HOURS);
                shares.kindle(lamps);
                rents += shares.rent();
            }
            hall.setTerm(HOUR, now);
            return rents;
        }

        private void drift(int candle) {
            if (draw(10) >= hall.term(DRAUGHT)) {
                return;
            }
            int cell = step(lamps.get(candle, CELL), draw(DIRECTIONS));
            if (cell != NONE && hall.kindAt(cell) == NOTHING) {
                lamps.set(candle, CELL, cell);
                lamps.set(candle, WENT, lamps.get(candle, WENT) + 1);
            }
        }

        private int draw(int m) {
            state = (state * 1103 + 12345) % 1000003;
            return m > 0 ? state % m : 0;
        }
    }

    /** Turns and moves, undone or run by orders. */
    private static final class Deeds {
        private static final int WHAT = 0;
        private static final int WHO = 1;
        private static final int FROM = 2;
        private static final int TURNED_IT = 0;
        private static final int MOVED_IT = 1;

        private final Hall hall;
        private final Shares shares;
        private final Slate slate;
        final Rows log;
        private final Hall hallAhead;
        private final Rows logAhead;
        int stoppedAt;

        Deeds(Hall hall, Shares shares) {
            this.hall = hall;
            this.shares = shares;
            slate = new Slate(ORDER_SLOTS, 0);
            log = new Rows(MOST_UNDONE, 3);
            hallAhead = new Hall();
            logAhead = new Rows(MOST_UNDONE, 3);
            stoppedAt = NONE;
        }

        void forgetAll() {
            log.clear();
        }

        void turnPivot(int pivot) {
            hall.flip(pivot);
            note(TURNED_IT, pivot, NONE);
        }

        void moveHeir(int heir, int cell) {
            note(MOVED_IT, heir, hall.heirs.get(heir, CELL));
            hall.heirs.set(heir, CELL, cell);
        }

        private void note(int what, int who, int from) {
            if (log.size >= MOST_UNDONE) {
                log.drop(0);
            }
            log.add(what, who, from);
        }

        int takeBack() {
            int latest = log.size - 1;
            int what = log.get(latest, WHAT);
            if (what == TURNED_IT) {
                hall.flip(log.get(latest, WHO));
            } else if (what == MOVED_IT) {
                hall.heirs.set(log.get(latest, WHO), CELL, log.get(latest, FROM));
            }
            log.drop(latest);
            return what;
        }

        /** How many were run; NONE if one could not be, and then all is as it was. */
        int run(Text text) {
            hallAhead.copy(hall);
            logAhead.copy(log);
            int done = 0;
            boolean stale = true;
            for (int line = 0; line < text.lines.size; line++) {
                for (int left = text.lines.get(line, TIMES); left > 0; left--) {
                    if (stale) {
                        learn(text, done);
                    }
                    stale = slate.value(text, text.lines.get(line, TEST), text.lines.get(line, CLOSE)) == 1;
                    if (stale && !perform(text, line)) {
                        stoppedAt = line;
                        hall.copy(hallAhead);
                        log.copy(logAhead);
                        return NONE;
                    }
                    done += stale ? 1 : 0;
                }
            }
            return done;
        }

        /** What the words of orders stand for changes only behind one that was run. */
        private void learn(Text text, int done) {
            slate.set(BY_HOUR, hall.term(HOUR));
            slate.set(BY_PIVOTS, hall.pivots.size);
            slate.set(BY_DONE, done);
            if (!text.looks) {
                return;
            }
            shares.kindle(hall.candles);
            shares.measure();
            slate.set(BY_RENT, shares.rent());
            for (int heir = 0; heir < MOST_HEIRS; heir++) {
                slate.set(BY_ESTATE + heir, shares.estateOf(heir));
                for (int thing = 0; thing < MOST_THINGS; thing++) {
                    slate.set(BY_SEES + heir * MOST_THINGS + thing, shares.seenBy(heir, thing));
                }
            }
        }

        private boolean perform(Text text, int line) {
            int verb = text.lines.get(line, VERB);
            if (verb == WAIT) {
                hall.setTerm(HOUR, (hall.term(HOUR) + 1) % HOURS);
                return true;
            }
            int second = text.lines.get(line, SECOND);
            int who = slate.value(text, text.lines.get(line, FIRST), second);
            if (verb == TURN) {
                if (!hall.pivots.has(who)) {
                    return false;
                }
                turnPivot(who);
                return true;
            }
            int cell = slate.value(text, second, text.lines.get(line, TEST));
            if (!hall.heirs.has(who) || !isCell(cell) || hall.kindAt(cell) != NOTHING) {
                return false;
            }
            moveHeir(who, cell);
            return true;
        }
    }
}
