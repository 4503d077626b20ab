/**
 * A wash house: linen with chips is counted in, put into batches, washed in a
 * tunnel, dried, ironed and packed. ../shared/DOC.md tells what each call does.
 *
 * All rows are made with the object and used again, so no call makes an object.
 */
public final class LinenTunnel {
    public static final int NONE = -1, BAD = -2, FULL = -3, NOT = -4;

    private static final int MOST_KINDS = 8, MOST_PIECES = 100, MOST_BATCHES = 12;
    private static final int MOST_IN_BATCH = 20, MOST_IN_PACK = 40, MOST_TO_PLAN = 8;
    private static final int LAST_HEAT = 3, LAST_COLOUR = 2, LAST_BEATS = 9, LAST_OWNER = 5;
    private static final int MOST_COMPARTMENTS = 10, MOST_DRYERS = 4, MOST_IRONS = 3;
    private static final int SHEETS = 4, LAST_FORM = 2, MOST_ITEMS = 60;

    // places of a piece
    private static final int OUT = 0, SOILED = 1, BATCHED = 2, CLEAN = 3, LOST = 4;
    // forms of a sheet; that of ints needs no name, for it keeps every bit
    private static final int BYTES = 0, SHORTS = 1;
    // findings
    private static final int NULL = 1, INDEX = 2, CAST = 3, STORE = 4, SIZE = 5;
    // what washed() tells
    private static final int BEATS = 0, EMPTIES = 1, HELD = 2, WATER = 3, END = 4;
    private static final int BATCHES = 5, PIECES = 6, TOTALS = 7;
    // what run() tells
    private static final int KIND = 0, CAME_IN = 1, WENT_OUT = 2, DRYER = 3, DRY = 4;
    private static final int IRON = 5, DONE = 6, FACTS = 7;

    // two steps of colour, one for heat and two for foul is the dearest gap
    private static final int MOST_SLOTS = MOST_BATCHES + (MOST_BATCHES - 1) * 5;
    // far above the some 200 beats that any wash can need
    private static final int MOST_BEATS = 1000000;
    private static final int WATER_OF_A_PIECE = 10;
    private static final int FIRST_PIECE = 10;
    private static final int LEAST = -2147483648;

    private final Kinds kinds;
    private final Linen linen;
    private final Waiting waiting;
    private final Planner planner;
    private final House house;
    private final Sheets sheets;
    private int latestFinding;

    public LinenTunnel() {
        kinds = new Kinds();
        linen = new Linen();
        waiting = new Waiting(kinds);
        planner = new Planner(waiting);
        house = new House(kinds, waiting);
        sheets = new Sheets();
        latestFinding = 0;
    }

    // ---- kinds, pieces

    public int kind(int heat, int colour, boolean foul, int dry, int iron) {
        if (!within(heat, 0, LAST_HEAT) || !within(colour, 0, LAST_COLOUR)) {
            return BAD;
        }
        if (!within(dry, 0, LAST_BEATS) || !within(iron, 0, LAST_BEATS)) {
            return BAD;
        }
        if (kinds.number >= MOST_KINDS) {
            return FULL;
        }
        return kinds.add(heat, colour, foul, dry, iron);
    }

    public int piece(int kind, int owner, boolean chip) {
        if (!isKind(kind) || !isOwner(owner)) {
            return BAD;
        }
        if (linen.number >= MOST_PIECES) {
            return FULL;
        }
        return linen.add(kind, owner, chip);
    }

    public int about(int piece, int what) {
        if (!isPiece(piece)) {
            return BAD;
        }
        switch (what) {
            case 0: return linen.kind.read(piece);
            case 1: return linen.owner.read(piece);
            case 2: return linen.chip.read(piece);
            case 3: return linen.place.read(piece);
            case 4: return linen.washes.read(piece);
            case 5: return linen.batch.read(piece);
            default: return BAD;
        }
    }

    public int chip(int piece, boolean can) {
        if (!isPiece(piece)) {
            return BAD;
        }
        linen.chip.write(piece, can ? 1 : 0);
        return 1;
    }

    public int lost(int piece) {
        if (!isPiece(piece)) {
            return BAD;
        }
        int place = linen.place.read(piece);
        if (place == BATCHED) {
            return NOT;
        }
        int then = place == LOST ? OUT : LOST;
        linen.place.write(piece, then);
        return then;
    }

    public int again(int piece) {
        return soilFrom(piece, CLEAN);
    }

    public int pieces(int owner, int kind, int place) {
        if (!isOwnerOrAny(owner) || !isKindOrAny(kind) || !isPlace(place)) {
            return BAD;
        }
        return linen.tally(owner, kind, place);
    }

    public int scan(int s, int n) {
        if (!isSheet(s) || !within(n, 0, MOST_ITEMS)) {
            return BAD;
        }
        if (sheets.isLost(s)) {
            return find(NULL);
        }
        if (!sheets.holds(s, 0, n)) {
            return find(INDEX);
        }
        int came = 0;
        for (int i = 0; i < n; i++) {
            int piece = sheets.item(s, i);
            if (isPiece(piece) && linen.chip.read(piece) == 1 && soilFrom(piece, OUT) == 1) {
                came++;
            }
        }
        return came;
    }

    public int hand(int piece) {
        return soilFrom(piece, OUT);
    }

    // ---- batches

    public int batch(int kind, int owner, int most) {
        if (!isKind(kind) || !isOwnerOrAny(owner) || !within(most, 1, MOST_IN_BATCH)) {
            return BAD;
        }
        if (waiting.number >= MOST_BATCHES) {
            return FULL;
        }
        int taken = linen.fillBatch(waiting.number, kind, owner, most);
        if (taken == 0) {
            return NOT;
        }
        waiting.add(kind, taken);
        return taken;
    }

    public int at(int place) {
        return isOrderPlace(place) ? waiting.order.read(place) : NONE;
    }

    public int of(int batch, int what) {
        if (!within(batch, 0, waiting.number - 1)) {
            return BAD;
        }
        int size = waiting.size.read(batch);
        if (within(what, FIRST_PIECE, FIRST_PIECE + size - 1)) {
            return linen.pieceOfBatch(batch, what - FIRST_PIECE);
        }
        switch (what) {
            case 0: return waiting.kind.read(batch);
            case 1: return size;
            case 2: return waiting.placeOf(batch);
            default: return BAD;
        }
    }

    public int swap(int i, int j) {
        if (!isOrderPlace(i) || !isOrderPlace(j)) {
            return BAD;
        }
        int kept = waiting.order.read(i);
        waiting.order.write(i, waiting.order.read(j));
        waiting.order.write(j, kept);
        return 1;
    }

    public int undo() {
        if (waiting.number == 0) {
            return NOT;
        }
        int gone = waiting.order.read(waiting.number - 1);
        linen.emptyBatch(gone);
        waiting.dropLast(gone);
        return waiting.number;
    }

    public int between(int a, int b) {
        return isKind(a) && isKind(b) ? kinds.gap(a, b) : BAD;
    }

    public int empties() {
        return waiting.gapsInOrder();
    }

    public int plan() {
        if (waiting.number > MOST_TO_PLAN) {
            return NOT;
        }
        planner.orderBest();
        return waiting.gapsInOrder();
    }

    public int greedy() {
        waiting.orderByNext();
        return waiting.gapsInOrder();
    }

    // ---- washing

    public int tunnel(int c, int d, int i) {
        if (!within(c, 2, MOST_COMPARTMENTS) || !within(d, 1, MOST_DRYERS) || !within(i, 1, MOST_IRONS)) {
            return BAD;
        }
        house.compartments = c;
        house.dryers = d;
        house.irons = i;
        return 1;
    }

    public int wash() {
        if (waiting.number == 0) {
            return NOT;
        }
        int beats = house.washOrder();
        linen.cleanBatches();
        waiting.number = 0;
        return beats;
    }

    public int washed(int what) {
        return within(what, 0, TOTALS - 1) ? house.totals.read(what) : BAD;
    }

    public int run(int place, int what) {
        if (!within(place, 0, house.totals.read(BATCHES) - 1) || !within(what, 0, FACTS - 1)) {
            return BAD;
        }
        return house.fact(place, what);
    }

    // ---- packs

    public int pack(int owner, int kind, int n) {
        if (!isOwner(owner) || !isKind(kind) || !within(n, 1, MOST_IN_PACK)) {
            return BAD;
        }
        int missing = n - linen.tally(owner, kind, CLEAN);
        if (missing > 0) {
            return -100 - missing;
        }
        return linen.sendOut(owner, kind, n);
    }

    // ---- sheets

    public int sheet(int s, int form, int n) {
        if (!isSheet(s) || !isForm(form) || n > MOST_ITEMS) {
            return BAD;
        }
        if (n < 0) {
            return find(SIZE);
        }
        sheets.renew(s, form, n);
        return n;
    }

    public int lose(int s) {
        if (!isSheet(s)) {
            return BAD;
        }
        if (sheets.isLost(s)) {
            return find(NULL);
        }
        int had = sheets.size.read(s);
        sheets.renew(s, NONE, 0);
        return had;
    }

    public int put(int s, int form, int i, int v) {
        if (!isSheet(s) || !isForm(form)) {
            return BAD;
        }
        int finding = sheets.findingAt(s, form, i);
        if (finding != 0) {
            return find(finding);
        }
        sheets.setItem(s, i, v);
        return 1;
    }

    public int get(int s, int form, int i) {
        if (!isSheet(s) || !isForm(form)) {
            return LEAST;
        }
        int finding = sheets.findingAt(s, form, i);
        if (finding != 0) {
            latestFinding = finding;
            return LEAST;
        }
        return sheets.item(s, i);
    }

    public int copy(int s, int i, int t, int j, int n) {
        if (!isSheet(s) || !isSheet(t)) {
            return BAD;
        }
        if (sheets.isLost(s) || sheets.isLost(t)) {
            return find(NULL);
        }
        if (sheets.form.read(s) != sheets.form.read(t)) {
            return find(STORE);
        }
        if (!sheets.holds(s, i, n) || !sheets.holds(t, j, n)) {
            return find(INDEX);
        }
        sheets.moveItems(s, i, t, j, n);
        return 1;
    }

    public int list(int s, int owner, int place) {
        if (!isSheet(s) || !isOwnerOrAny(owner) || !isPlace(place)) {
            return BAD;
        }
        if (sheets.isLost(s)) {
            return find(NULL);
        }
        int room = sheets.size.read(s);
        int written = 0;
        for (int piece = 0; piece < linen.number && written < room; piece++) {
            if (linen.fits(piece, owner, NONE, place)) {
                sheets.setItem(s, written, piece);
                written++;
            }
        }
        return written;
    }

    public int count(int what) {
        switch (what) {
            case 0: return kinds.number;
            case 1: return linen.number;
            case 2: return waiting.number;
            case 3: return house.compartments;
            case 4: return house.dryers;
            case 5: return house.irons;
            case 6: return latestFinding;
            case 7: return house.washes;
            default: return BAD;
        }
    }

    public long digest() {
        long h = 17;
        for (int what = 0; what <= 5; what++) {
            h = 31 * h + count(what);
        }
        h = 31 * h + count(7);
        for (int piece = 0; piece < linen.number; piece++) {
            for (int what = 2; what <= 5; what++) {
                h = 31 * h + about(piece, what);
            }
        }
        for (int place = 0; place < waiting.number; place++) {
            h = 31 * h + at(place);
        }
        for (int what = 0; what < TOTALS; what++) {
            h = 31 * h + washed(what);
        }
        return h;
    }

    // ---- what the calls share

    private static boolean within(int value, int least, int most) {
        return value >= least && value <= most;
    }

    private boolean isKind(int kind) {
        return within(kind, 0, kinds.number - 1);
    }

    private boolean isKindOrAny(int kind) {
        return kind == NONE || isKind(kind);
    }

    private boolean isPiece(int piece) {
        return within(piece, 0, linen.number - 1);
    }

    private boolean isOrderPlace(int place) {
        return within(place, 0, waiting.number - 1);
    }

    private static boolean isOwner(int owner) {
        return within(owner, 0, LAST_OWNER);
    }

    private static boolean isOwnerOrAny(int owner) {
        return owner == NONE || isOwner(owner);
    }

    private static boolean isPlace(int place) {
        return within(place, OUT, LOST);
    }

    private static boolean isSheet(int s) {
        return within(s, 0, SHEETS - 1);
    }

    private static boolean isForm(int form) {
        return within(form, 0, LAST_FORM);
    }

    private int find(int finding) {
        latestFinding = finding;
        return -10 - finding;
    }

    private int soilFrom(int piece, int place) {
        if (!isPiece(piece)) {
            return BAD;
        }
        if (linen.place.read(piece) != place) {
            return NOT;
        }
        linen.place.write(piece, SOILED);
        return 1;
    }

    /**
     * A row of numbers that reads 0 outside itself and keeps nothing there.
     * Every array of the program is behind it, so no index can be a wrong one.
     */
    private static final class Row {
        private final int[] items;

        Row(int length) {
            items = new int[length > 0 ? length : 0];
        }

        int read(int i) {
            return i >= 0 && i < items.length ? items[i] : 0;
        }

        void write(int i, int value) {
            if (i >= 0 && i < items.length) {
                items[i] = value;
            }
        }

        void fill(int value) {
            for (int i = 0; i < items.length; i++) {
                items[i] = value;
            }
        }
    }

    /** The kinds of linen, by numbers. */
    private static final class Kinds {
        private int number = 0;
        private final Row heat = new Row(MOST_KINDS);
        private final Row colour = new Row(MOST_KINDS);
        private final Row foul = new Row(MOST_KINDS);
        private final Row dry = new Row(MOST_KINDS);
        private final Row iron = new Row(MOST_KINDS);

        int add(int heatOf, int colourOf, boolean isFoul, int dryBeats, int ironBeats) {
            heat.write(number, heatOf);
            colour.write(number, colourOf);
            foul.write(number, isFoul ? 1 : 0);
            dry.write(number, dryBeats);
            iron.write(number, ironBeats);
            number++;
            return number - 1;
        }

        /** How many empty beats stand between kind a and kind b behind it. */
        int gap(int a, int b) {
            int gap = Math.max(0, colour.read(a) - colour.read(b));
            if (Math.abs(heat.read(a) - heat.read(b)) > 1) {
                gap += 1;
            }
            if (foul.read(a) == 1 && foul.read(b) == 0) {
                gap += 2;
            }
            return gap;
        }
    }

    /**
     * The pieces, by numbers. A batch has its pieces by rising numbers, so it is
     * enough that each piece knows its batch.
     */
    private static final class Linen {
        private int number = 0;
        private final Row kind = new Row(MOST_PIECES);
        private final Row owner = new Row(MOST_PIECES);
        private final Row chip = new Row(MOST_PIECES);
        private final Row place = new Row(MOST_PIECES);
        private final Row washes = new Row(MOST_PIECES);
        private final Row batch = new Row(MOST_PIECES);

        int add(int kindOf, int ownerOf, boolean canBeRead) {
            kind.write(number, kindOf);
            owner.write(number, ownerOf);
            chip.write(number, canBeRead ? 1 : 0);
            place.write(number, OUT);
            washes.write(number, 0);
            batch.write(number, NONE);
            number++;
            return number - 1;
        }

        boolean fits(int piece, int ownerOf, int kindOf, int placeOf) {
            return place.read(piece) == placeOf
                && (ownerOf == NONE || owner.read(piece) == ownerOf)
                && (kindOf == NONE || kind.read(piece) == kindOf);
        }

        int tally(int ownerOf, int kindOf, int placeOf) {
            int tally = 0;
            for (int piece = 0; piece < number; piece++) {
                if (fits(piece, ownerOf, kindOf, placeOf)) {
                    tally++;
                }
            }
            return tally;
        }

        int fillBatch(int into, int kindOf, int ownerOf, int most) {
            int taken = 0;
            for (int piece = 0; piece < number && taken < most; piece++) {
                if (fits(piece, ownerOf, kindOf, SOILED)) {
                    place.write(piece, BATCHED);
                    batch.write(piece, into);
                    taken++;
                }
            }
            return taken;
        }

        int pieceOfBatch(int of, int k) {
            int before = 0;
            for (int piece = 0; piece < number; piece++) {
                if (batch.read(piece) == of) {
                    if (before == k) {
                        return piece;
                    }
                    before++;
                }
            }
            return NONE;
        }

        void emptyBatch(int gone) {
            for (int piece = 0; piece < number; piece++) {
                int in = batch.read(piece);
                if (in == gone) {
                    place.write(piece, SOILED);
                    batch.write(piece, NONE);
                } else if (in > gone) {
                    batch.write(piece, in - 1);
                }
            }
        }

        void cleanBatches() {
            for (int piece = 0; piece < number; piece++) {
                if (place.read(piece) == BATCHED) {
                    place.write(piece, CLEAN);
                    batch.write(piece, NONE);
                    washes.write(piece, washes.read(piece) + 1);
                }
            }
        }

        int sendOut(int ownerOf, int kindOf, int n) {
            int sent = 0;
            for (int piece = 0; piece < number && sent < n; piece++) {
                if (fits(piece, ownerOf, kindOf, CLEAN)) {
                    place.write(piece, OUT);
                    sent++;
                }
            }
            return sent;
        }
    }

    /** The batches that wait, by numbers, and their order. */
    private static final class Waiting {
        private final Kinds kinds;
        private int number = 0;
        private final Row kind = new Row(MOST_BATCHES);
        private final Row size = new Row(MOST_BATCHES);
        private final Row order = new Row(MOST_BATCHES);

        Waiting(Kinds kindsOfHouse) {
            kinds = kindsOfHouse;
        }

        void add(int kindOf, int pieces) {
            kind.write(number, kindOf);
            size.write(number, pieces);
            order.write(number, number);
            number++;
        }

        void dropLast(int gone) {
            number--;
            for (int batch = gone; batch < number; batch++) {
                kind.write(batch, kind.read(batch + 1));
                size.write(batch, size.read(batch + 1));
            }
            for (int place = 0; place < number; place++) {
                int batch = order.read(place);
                order.write(place, batch > gone ? batch - 1 : batch);
            }
        }

        int placeOf(int batch) {
            for (int place = 0; place < number; place++) {
                if (order.read(place) == batch) {
                    return place;
                }
            }
            return NONE;
        }

        int gapOf(int a, int b) {
            return kinds.gap(kind.read(a), kind.read(b));
        }

        int gapAhead(int place) {
            return place > 0 ? gapOf(order.read(place - 1), order.read(place)) : 0;
        }

        int gapsInOrder() {
            int gaps = 0;
            for (int place = 1; place < number; place++) {
                gaps += gapAhead(place);
            }
            return gaps;
        }

        void orderByNext() {
            int left = (1 << number) - 1;
            for (int place = 0; place < number; place++) {
                int next = place == 0 ? order.read(0) : nextOf(left, order.read(place - 1));
                order.write(place, next);
                left &= ~(1 << next);
            }
        }

        private int nextOf(int left, int ahead) {
            int next = NONE;
            for (int batch = 0; batch < number; batch++) {
                boolean isLeft = (left >> batch & 1) == 1;
                if (isLeft && (next == NONE || gapOf(ahead, batch) < gapOf(ahead, next))) {
                    next = batch;
                }
            }
            return next;
        }
    }

    /**
     * Finds the best order. What is cheapest behind some batches depends on which
     * they are and on the last of them alone, so a row of such costs is enough.
     */
    private static final class Planner {
        private final Waiting waiting;
        private final Row gaps = new Row(MOST_TO_PLAN * MOST_TO_PLAN);
        // the fewest empties behind a set (a bit for each batch) with this last one
        private final Row fewest = new Row((1 << MOST_TO_PLAN) * MOST_TO_PLAN);

        Planner(Waiting waitingOfHouse) {
            waiting = waitingOfHouse;
        }

        void orderBest() {
            fillGaps();
            fillFewest();
            int set = 0;
            int last = NONE;
            for (int place = 0; place < waiting.number; place++) {
                last = bestBehind(set, last);
                set |= 1 << last;
                waiting.order.write(place, last);
            }
        }

        private void fillGaps() {
            for (int a = 0; a < waiting.number; a++) {
                for (int b = 0; b < waiting.number; b++) {
                    gaps.write(a * MOST_TO_PLAN + b, waiting.gapOf(a, b));
                }
            }
        }

        private void fillFewest() {
            // from the whole set down, as each set is told by greater ones
            for (int set = (1 << waiting.number) - 1; set > 0; set--) {
                for (int last = 0; last < waiting.number; last++) {
                    if ((set >> last & 1) == 1) {
                        int next = bestBehind(set, last);
                        int cost = next == NONE ? 0 : costBehind(set, last, next);
                        fewest.write(set * MOST_TO_PLAN + last, cost);
                    }
                }
            }
        }

        /** Of the cheapest next ones the one with the least number. */
        private int bestBehind(int set, int last) {
            int best = NONE;
            int bestCost = 0;
            for (int next = 0; next < waiting.number; next++) {
                if ((set >> next & 1) == 0) {
                    int cost = costBehind(set, last, next);
                    if (best == NONE || cost < bestCost) {
                        best = next;
                        bestCost = cost;
                    }
                }
            }
            return best;
        }

        private int costBehind(int set, int last, int next) {
            int gap = last == NONE ? 0 : gaps.read(last * MOST_TO_PLAN + next);
            return gap + fewest.read((set | 1 << next) * MOST_TO_PLAN + next);
        }
    }

    /**
     * The tunnel with its dryers and irons, and what the latest wash was. In it a
     * batch goes by its place in the order.
     */
    private static final class House {
        private final Kinds kinds;
        private final Waiting waiting;
        private int compartments = 4;
        private int dryers = 2;
        private int irons = 1;
        private int washes = 0;
        private int slotNumber = 0;
        private int nextSlot = 0;
        private int gone = 0;
        private final Row slots = new Row(MOST_SLOTS);
        private final Row inside = new Row(MOST_COMPARTMENTS);
        private final Row dryerTill = new Row(MOST_DRYERS);
        private final Row ironTill = new Row(MOST_IRONS);
        private final Row size = new Row(MOST_BATCHES);
        private final Row facts = new Row(MOST_BATCHES * FACTS);
        private final Row totals = new Row(TOTALS);

        House(Kinds kindsOfHouse, Waiting waitingOfHouse) {
            kinds = kindsOfHouse;
            waiting = waitingOfHouse;
        }

        int fact(int place, int what) {
            return facts.read(place * FACTS + what);
        }

        private void note(int place, int what, int value) {
            facts.write(place * FACTS + what, value);
        }

        private void addTotal(int what, int value) {
            totals.write(what, totals.read(what) + value);
        }

        int washOrder() {
            clear();
            for (int place = 0; place < waiting.number; place++) {
                lineUp(place);
            }
            int beat = 0;
            while (gone < totals.read(BATCHES) && beat < MOST_BEATS) {
                beat++;
                doBeat(beat);
            }
            totals.write(BEATS, beat);
            ironAll();
            washes++;
            return beat;
        }

        private void clear() {
            slotNumber = 0;
            nextSlot = 0;
            gone = 0;
            totals.fill(0);
            facts.fill(NONE);
            inside.fill(NONE);
            dryerTill.fill(0);
            ironTill.fill(0);
        }

        private void lineUp(int place) {
            int batch = waiting.order.read(place);
            int pieces = waiting.size.read(batch);
            int gap = waiting.gapAhead(place);
            for (int i = 0; i < gap; i++) {
                addSlot(NONE);
            }
            addSlot(place);
            note(place, KIND, waiting.kind.read(batch));
            size.write(place, pieces);
            addTotal(EMPTIES, gap);
            addTotal(BATCHES, 1);
            addTotal(PIECES, pieces);
        }

        private void addSlot(int slot) {
            slots.write(slotNumber, slot);
            slotNumber++;
        }

        private void doBeat(int beat) {
            int last = inside.read(compartments - 1);
            if (last != NONE) {
                int dryBeats = kinds.dry.read(fact(last, KIND));
                int dryer = freeDryer(beat);
                if (dryBeats > 0 && dryer == NONE) {
                    addTotal(HELD, 1);
                    return;
                }
                goOut(last, beat, dryBeats, dryer);
            }
            moveOn(beat);
            addTotal(WATER, waterOfBeat());
        }

        private int freeDryer(int beat) {
            for (int dryer = 0; dryer < dryers; dryer++) {
                if (dryerTill.read(dryer) <= beat) {
                    return dryer;
                }
            }
            return NONE;
        }

        private void goOut(int place, int beat, int dryBeats, int dryer) {
            gone++;
            note(place, WENT_OUT, beat);
            note(place, DRY, beat + dryBeats);
            if (dryBeats > 0) {
                note(place, DRYER, dryer);
                dryerTill.write(dryer, beat + dryBeats);
            }
        }

        private void moveOn(int beat) {
            for (int k = compartments - 1; k > 0; k--) {
                inside.write(k, inside.read(k - 1));
            }
            int slot = nextSlot < slotNumber ? slots.read(nextSlot) : NONE;
            nextSlot++;
            inside.write(0, slot);
            if (slot != NONE) {
                note(slot, CAME_IN, beat);
            }
        }

        private int waterOfBeat() {
            int water = 0;
            for (int k = 0; k < compartments; k++) {
                int place = inside.read(k);
                if (place != NONE && !hasWaterOfNext(k)) {
                    water += WATER_OF_A_PIECE * size.read(place);
                }
            }
            return water;
        }

        private boolean hasWaterOfNext(int k) {
            int next = k < compartments - 1 ? inside.read(k + 1) : NONE;
            return next != NONE && colourAt(next) <= colourAt(inside.read(k));
        }

        private int colourAt(int place) {
            return kinds.colour.read(fact(place, KIND));
        }

        private void ironAll() {
            int batches = totals.read(BATCHES);
            int done = 0;
            for (int step = 0; step < batches; step++) {
                int place = firstDry(done);
                done |= 1 << place;
                ironOne(place);
                totals.write(END, Math.max(totals.read(END), fact(place, DONE)));
            }
        }

        /** Batches go out in their order, so of like ones the first place went out first. */
        private int firstDry(int done) {
            int first = NONE;
            for (int place = 0; place < totals.read(BATCHES); place++) {
                boolean isLeft = (done >> place & 1) == 0;
                if (isLeft && (first == NONE || fact(place, DRY) < fact(first, DRY))) {
                    first = place;
                }
            }
            return first;
        }

        private void ironOne(int place) {
            int dry = fact(place, DRY);
            int ironBeats = kinds.iron.read(fact(place, KIND));
            if (ironBeats == 0) {
                note(place, DONE, dry);
                return;
            }
            int iron = firstIron();
            int till = Math.max(dry, ironTill.read(iron)) + ironBeats;
            ironTill.write(iron, till);
            note(place, IRON, iron);
            note(place, DONE, till);
        }

        private int firstIron() {
            int first = 0;
            for (int iron = 1; iron < irons; iron++) {
                if (ironTill.read(iron) < ironTill.read(first)) {
                    first = iron;
                }
            }
            return first;
        }
    }

    /** The sheets: a lost one has no form. */
    private static final class Sheets {
        private final Row form = new Row(SHEETS);
        private final Row size = new Row(SHEETS);
        private final Row items = new Row(SHEETS * MOST_ITEMS);

        Sheets() {
            form.fill(NONE);
        }

        boolean isLost(int s) {
            return form.read(s) == NONE;
        }

        boolean holds(int s, int i, int n) {
            return i >= 0 && n >= 0 && i <= size.read(s) && n <= size.read(s) - i;
        }

        /** The first finding that fits item i of a sheet, or 0. */
        int findingAt(int s, int formOf, int i) {
            if (isLost(s)) {
                return NULL;
            }
            if (form.read(s) != formOf) {
                return CAST;
            }
            return i >= 0 && i < size.read(s) ? 0 : INDEX;
        }

        void renew(int s, int formOf, int n) {
            form.write(s, formOf);
            size.write(s, n);
            for (int i = 0; i < MOST_ITEMS; i++) {
                items.write(s * MOST_ITEMS + i, 0);
            }
        }

        int item(int s, int i) {
            return items.read(s * MOST_ITEMS + i);
        }

        void setItem(int s, int i, int v) {
            items.write(s * MOST_ITEMS + i, lowestBits(form.read(s), v));
        }

        private static int lowestBits(int formOf, int v) {
            if (formOf == BYTES) {
                return (byte) v;
            }
            return formOf == SHORTS ? (short) v : v;
        }

        void moveItems(int s, int i, int t, int j, int n) {
            // from behind, where items would be written over before they are read
            boolean fromBehind = i < j;
            for (int step = 0; step < n; step++) {
                int k = fromBehind ? n - 1 - step : step;
                setItem(t, j + k, item(s, i + k));
            }
        }
    }
}
