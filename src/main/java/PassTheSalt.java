import java.util.Arrays;

/**
 * A table at which nothing is passed for nothing: guests ask one another for dishes by passing what is
 * before themselves. The document (DOC.md) has the terms; the names here follow it.
 *
 * <p>How dishes lie is one int (three bits a seat), so that at most 720 such ints, the LAYINGS, are all
 * that can ever be at one table; everything that looks ahead is a walk over their numbers.
 */
public final class PassTheSalt {
    public static final int BAD = -1, NO = -2, FULL = -3, NONE = -4;

    private static final String FIRST_TEXT = "d3;g0,0,2;g0,1,4;g0,2,1;";

    private static final int MOST_BYTES = 300;
    private static final int MOST_GUESTS = 6;
    private static final int MOST_DISHES = 6;
    private static final int MOST_LAYINGS = 720;
    private static final int MOST_UNDONE = 8;
    private static final int MOST_KEPT = 2;
    private static final int MOST_WENT = 8;
    private static final int LAST_MINUTE = 99;
    private static final int LAST_DRAW = 9999;
    private static final int MOST_DRAWN = 60;

    private static final int OWN = 1;
    private static final int HOLD = 2;
    private static final int CHILD = 3;

    private static final int SEAT_BITS = 3;
    private static final int NOTHING = 7;
    private static final int BARE = (1 << SEAT_BITS * MOST_GUESTS) - 1;

    private static final int NUMBER_BITS = 10;
    private static final int NOWHERE = (1 << NUMBER_BITS) - 1;
    private static final int FAR = 1_000_000;

    private final int[] text = new int[MOST_BYTES];
    private int length;
    private final Table told = new Table();
    private final Reader reader = new Reader(text, told);

    private final Table table = new Table();
    private final Layings layings = new Layings();
    private final Moves moves = new Moves(table, layings, MOST_LAYINGS * MOST_GUESTS);
    private final Search search = new Search(moves);
    private final Sums sums = new Sums(moves);
    private final WhatIf whatIf = new WhatIf(table, search);

    private final Moment now = new Moment();
    private final Moments undoable = new Moments(MOST_UNDONE);
    private final Moments kept = new Moments(MOST_KEPT);

    public PassTheSalt() {
        for (int k = 0; k < FIRST_TEXT.length() && k < MOST_BYTES; k++) {
            text[k] = FIRST_TEXT.charAt(k);
            length = k + 1;
        }
        lay();
        length = 0;
    }

    // ---- tables

    public int write(int n, long v) {
        if (n < 1 || n > 8) {
            return BAD;
        }
        if (length + n > MOST_BYTES) {
            return FULL;
        }
        for (int k = n - 1; k >= 0; k--) {
            put(text, length, (int) (v >> 8 * k) & 255);
            length++;
        }
        return length;
    }

    public int wipe() {
        int was = length;
        length = 0;
        return was;
    }

    public int fault() {
        return reader.read(length);
    }

    public int lay() {
        if (reader.read(length) != NONE || told.guests < 2) {
            return NO;
        }
        table.become(told);
        layings.gather(table.laid, table.guests);
        moves.forget();
        search.forget();
        whatIf.forget();
        now.lie = table.laid;
        now.had = pairsOf(table.laid);
        now.minute = 0;
        undoable.size = 0;
        kept.size = 0;
        return table.guests;
    }

    public int guest(int i, int what) {
        if (!isGuest(i)) {
            return BAD;
        }
        switch (what) {
            case 0:
                return table.kindOf(i);
            case 1:
                return dishOrNone(i);
            case 2:
                return table.wantsOf(i);
            case 3:
                return bitsOf(now.had, i);
            default:
                return BAD;
        }
    }

    public int worth(int i, int d, int t) {
        if (!isGuest(i) || !isDish(d) || t < 0 || t > LAST_MINUTE) {
            return BAD;
        }
        return table.worthAt(i, d, t);
    }

    public int hands(int i, int j) {
        if (!isGuest(i) || !isGuest(j)) {
            return BAD;
        }
        return table.stepsBetween(i, j);
    }

    // ---- askings

    public int ask(int i, int j) {
        if (!isGuest(i) || !isGuest(j)) {
            return BAD;
        }
        if (!table.canBeAsked(now.lie, i, j)) {
            return NO;
        }
        undoable.addLast(now);
        now.lie = table.lieAfter(now.lie, i, j);
        now.had |= pairsOf(now.lie);
        now.minute += table.stepsBetween(i, j);
        return dishOrNone(i);
    }

    public int undo() {
        if (undoable.size == 0) {
            return NO;
        }
        undoable.takeLast(now);
        return undoable.size;
    }

    public int evening() {
        return table.worthTogether(now.lie, now.minute);
    }

    // ---- what can be had

    public int need(int i, int d) {
        if (!isGuest(i) || !isDish(d)) {
            return BAD;
        }
        lookAhead();
        return search.stepsTo(i, d);
    }

    public int first(int i, int d) {
        if (!isGuest(i) || !isDish(d)) {
            return BAD;
        }
        lookAhead();
        return search.openingTo(i, d);
    }

    public int price(int i, int d) {
        if (!isGuest(i) || !isDish(d)) {
            return BAD;
        }
        if (seatOf(now.lie, d) < 0) {
            return NONE;
        }
        return sums.leastPrice(layings.numberOf(now.lie), i, d);
    }

    public int never(int i) {
        if (!isGuest(i)) {
            return BAD;
        }
        lookAhead();
        long all = shifted(table.allDishes(), i);
        return bitsOf(all & ~search.pairsReached(all), i);
    }

    public int stuck() {
        return moves.changeAnything(layings.numberOf(now.lie)) ? 0 : 1;
    }

    public int rest() {
        lookAhead();
        return search.stepsToRest(FAR);
    }

    public int holdsUp(int what) {
        if (what < 0 || what > 1) {
            return BAD;
        }
        lookAhead();
        whatIf.findHolder();
        return what == 0 ? whatIf.holder : whatIf.heldUp;
    }

    // ---- what is liked

    public int liked(int what) {
        if (what < 0 || what > 1) {
            return BAD;
        }
        int many = 0;
        int foremost = NONE;
        for (int i = 0; i < table.guests; i++) {
            for (int j = i + 1; j < table.guests; j++) {
                if (table.bothWouldLike(now.lie, i, j)) {
                    foremost = many == 0 ? 10 * i + j : foremost;
                    many++;
                }
            }
        }
        return what == 0 ? many : foremost;
    }

    public int most() {
        int best = 0;
        for (int k = 0; k < layings.size; k++) {
            best = Math.max(best, table.worthTogether(layings.lieOf(k), 0));
        }
        return best;
    }

    public int seats() {
        lookAhead();
        return whatIf.bestSeats();
    }

    public long went(int n) {
        if (n < 0 || n > MOST_WENT) {
            return BAD;
        }
        return sums.rowsBetween(layings.numberOf(table.laid), layings.numberOf(now.lie), n);
    }

    // ---- evenings

    public int drawn(int z, int n, int d) {
        if (z < 0 || z > LAST_DRAW || n < 1 || n > MOST_DRAWN || d != -1 && !isDish(d)) {
            return BAD;
        }
        int lie = now.lie;
        int many = 0;
        for (int k = 0; k < n; k++) {
            int draw = drawOf(z, k);
            int asker = table.guestBy(draw);
            int asked = table.guestBy(draw / 8);
            if (table.canBeAsked(lie, asker, asked)) {
                lie = table.lieAfter(lie, asker, asked);
                many++;
            }
        }
        if (d == -1) {
            return many;
        }
        int seat = seatOf(lie, d);
        return seat < 0 ? NONE : seat;
    }

    public int keep() {
        if (kept.size >= MOST_KEPT) {
            return FULL;
        }
        kept.addLast(now);
        return kept.size;
    }

    public int back() {
        if (kept.size == 0) {
            return NO;
        }
        kept.takeLast(now);
        undoable.size = 0;
        return kept.size;
    }

    public int count(int what) {
        switch (what) {
            case 0:
                return table.guests;
            case 1:
                return table.dishes;
            case 2:
                return now.minute;
            case 3:
                return undoable.size;
            case 4:
                return kept.size;
            case 5:
                return length;
            case 6:
                return table.ring;
            default:
                return BAD;
        }
    }

    // ---- helpers of the calls

    private void lookAhead() {
        search.startFrom(layings.numberOf(now.lie));
    }

    private boolean isGuest(int i) {
        return i >= 0 && i < table.guests;
    }

    private boolean isDish(int d) {
        return d >= 0 && d < table.dishes;
    }

    private int dishOrNone(int i) {
        int dish = before(now.lie, i);
        return dish == NOTHING ? NONE : dish;
    }

    private static int drawOf(int z, int k) {
        long x = 7919L * z + 6151L * k + 1;
        return (int) (x * x % 65521);
    }

    // ---- rows, whose indices are looked at here

    private static int at(int[] row, int index) {
        return index >= 0 && index < row.length ? row[index] : 0;
    }

    private static void put(int[] row, int index, int value) {
        if (index >= 0 && index < row.length) {
            row[index] = value;
        }
    }

    // ---- how dishes lie: three bits for each seat

    private static int before(int lie, int seat) {
        return lie >> SEAT_BITS * seat & NOTHING;
    }

    private static int placed(int lie, int seat, int dish) {
        int shift = SEAT_BITS * seat;
        return lie & ~(NOTHING << shift) | dish << shift;
    }

    private static int changed(int lie, int one, int other) {
        int apart = (lie >> SEAT_BITS * one ^ lie >> SEAT_BITS * other) & NOTHING;
        return lie ^ apart << SEAT_BITS * one ^ apart << SEAT_BITS * other;
    }

    private static int seatOf(int lie, int dish) {
        for (int seat = 0; seat < MOST_GUESTS; seat++) {
            if (before(lie, seat) == dish) {
                return seat;
            }
        }
        return -1;
    }

    // ---- pairs of a guest and a dish: six bits for each guest

    private static long pairsOf(int lie) {
        long pairs = 0;
        for (int seat = 0; seat < MOST_GUESTS; seat++) {
            int dish = before(lie, seat);
            if (dish != NOTHING) {
                pairs |= shifted(1 << dish, seat);
            }
        }
        return pairs;
    }

    private static long shifted(int bits, int guest) {
        return (long) bits << MOST_DISHES * guest;
    }

    private static int bitsOf(long pairs, int guest) {
        return (int) (pairs >> MOST_DISHES * guest) & (1 << MOST_DISHES) - 1;
    }

    /** The guests as told, and what an asking does among them. */
    private static final class Table {
        int guests;
        int dishes;
        int ring;
        int servant;
        int cold;
        int laid;
        private final int[] kinds = new int[MOST_GUESTS];
        private final int[] wants = new int[MOST_GUESTS];
        private final int[] worths = new int[MOST_GUESTS * MOST_DISHES];

        void clear() {
            guests = 0;
            dishes = 3;
            ring = 0;
            servant = 9;
            cold = 1;
            laid = BARE;
        }

        void become(Table other) {
            guests = other.guests;
            dishes = other.dishes;
            ring = other.ring;
            servant = other.servant;
            cold = other.cold;
            laid = other.laid;
            for (int g = 0; g < MOST_GUESTS; g++) {
                takeGuest(g, other, g);
            }
        }

        /** Only what goes with a guest when he changes seats: dishes stay. */
        void takeGuest(int g, Table other, int from) {
            put(kinds, g, other.kindOf(from));
            put(wants, g, other.wantsOf(from));
            for (int d = 0; d < MOST_DISHES; d++) {
                setWorth(g, d, other.worthOf(from, d));
            }
        }

        void addGuest(int kind, int dish, int wanted) {
            put(kinds, guests, kind);
            put(wants, guests, wanted);
            for (int d = 0; d < MOST_DISHES; d++) {
                setWorth(guests, d, 1);
            }
            laid = placed(laid, guests, dish);
            guests++;
        }

        void setKind(int g, int kind) {
            put(kinds, g, kind);
        }

        void setWorth(int g, int d, int worth) {
            put(worths, g * MOST_DISHES + d, worth);
        }

        int kindOf(int g) {
            return g >= 0 && g < MOST_GUESTS ? kinds[g] : 0;
        }

        int wantsOf(int g) {
            return at(wants, g);
        }

        int allDishes() {
            return (1 << dishes) - 1;
        }

        /** What it is worth not cold; nothing is worth 0. */
        int worthOf(int g, int d) {
            if (g < 0 || g >= MOST_GUESTS || d < 0 || d >= MOST_DISHES) {
                return 0;
            }
            return worths[g * MOST_DISHES + d];
        }

        int worthAt(int g, int d, int minute) {
            return worthOf(g, d) * Math.max(0, 10 - cold * minute) / 10;
        }

        int worthTogether(int lie, int minute) {
            int sum = 0;
            for (int g = 0; g < guests; g++) {
                sum += worthAt(g, before(lie, g), minute);
            }
            return sum;
        }

        int guestBy(int number) {
            return guests > 0 ? number % guests : 0;
        }

        int stepsBetween(int i, int j) {
            if (ring == 0) {
                return Math.abs(i - j);
            }
            int right = stepsRight(i, j);
            return Math.min(right, guests - right);
        }

        private int stepsRight(int i, int j) {
            return j >= i ? j - i : j - i + guests;
        }

        private int stepTowards(int i, int j) {
            if (ring == 0) {
                return j > i ? 1 : -1;
            }
            int right = stepsRight(i, j);
            return right <= guests - right ? 1 : -1;
        }

        private int nextSeat(int seat, int step) {
            int next = seat + step;
            if (next < 0) {
                return guests - 1;
            }
            return next >= guests ? 0 : next;
        }

        boolean canBeAsked(int lie, int asker, int asked) {
            return asker != asked && asker >= 0 && asker < guests && asked >= 0 && asked < guests
                    && kindOf(asked) != HOLD
                    && before(lie, asker) != NOTHING && before(lie, asked) != NOTHING;
        }

        int lieAfter(int lie, int asker, int asked) {
            int step = stepTowards(asker, asked);
            int after = placed(placed(lie, asker, NOTHING), asked, NOTHING);
            after = carried(after, before(lie, asker), asker, asked, step);
            after = carried(after, before(lie, asked), asked, asker, -step);
            return childChanged(childChanged(after, asker), asked);
        }

        private int carried(int lie, int dish, int from, int to, int step) {
            int after = lie;
            int going = dish;
            int seat = nextSeat(from, step);
            for (int k = 0; k < MOST_GUESTS && seat != to; k++) {
                int there = before(after, seat);
                if (kindOf(seat) == OWN && worthOf(seat, going) > worthOf(seat, there)) {
                    after = placed(after, seat, going);
                    going = there;
                }
                seat = nextSeat(seat, step);
            }
            return placed(after, to, going);
        }

        private int childChanged(int lie, int seat) {
            boolean lastOfRow = ring == 0 && seat == guests - 1;
            if (kindOf(seat) != CHILD || before(lie, seat) == NOTHING || lastOfRow) {
                return lie;
            }
            return changed(lie, seat, nextSeat(seat, 1));
        }

        boolean bothWouldLike(int lie, int i, int j) {
            int mine = before(lie, i);
            int yours = before(lie, j);
            return worthOf(i, yours) > worthOf(i, mine) && worthOf(j, mine) > worthOf(j, yours);
        }

        boolean isAtRest(int lie) {
            for (int g = 0; g < guests; g++) {
                if (wantsOf(g) != 0 && (wantsOf(g) & 1 << before(lie, g)) == 0) {
                    return false;
                }
            }
            return true;
        }

        long wantedPairs() {
            long pairs = 0;
            for (int g = 0; g < guests; g++) {
                pairs |= shifted(wantsOf(g), g);
            }
            return pairs;
        }
    }

    /** Reads the text item by item into a table. */
    private static final class Reader {
        private static final int NO_DISH = 9;
        private static final int NO_FIGURE = -1;

        private final int[] text;
        private final Table table;
        private final int[] numbers = new int[3];
        private int end;
        private int place;

        Reader(int[] text, Table table) {
            this.text = text;
            this.table = table;
        }

        /** The place of the first item that is at fault, or NONE. */
        int read(int length) {
            table.clear();
            end = length;
            place = 0;
            for (int k = 0; k < MOST_BYTES && place < end; k++) {
                int start = place;
                if (!readItem()) {
                    return start;
                }
            }
            return NONE;
        }

        private boolean readItem() {
            int letter = nextByte();
            if (letter == 'w') {
                return readWorths();
            }
            int many = letter == 'g' ? 3 : 1;
            for (int k = 0; k < many; k++) {
                if (!readNumber(k) || nextByte() != (k < many - 1 ? ',' : ';')) {
                    return false;
                }
            }
            if (letter == 'g') {
                return takeGuest(at(numbers, 0), at(numbers, 1), at(numbers, 2));
            }
            return takeNumber(letter, at(numbers, 0));
        }

        private boolean takeNumber(int letter, int number) {
            switch (letter) {
                case 'd':
                    table.dishes = number;
                    return number >= 1 && number <= MOST_DISHES && table.guests == 0;
                case 'r':
                    table.ring = number;
                    return number <= 1;
                case 's':
                    table.servant = number;
                    return true;
                case 'c':
                    table.cold = number;
                    return number <= 9;
                default:
                    return false;
            }
        }

        private boolean takeGuest(int kind, int dish, int wanted) {
            boolean dishFits = dish == NO_DISH || dish < table.dishes && seatOf(table.laid, dish) < 0;
            boolean wantsFit = (wanted & ~table.allDishes()) == 0;
            if (table.guests >= MOST_GUESTS || kind > CHILD || !dishFits || !wantsFit) {
                return false;
            }
            table.addGuest(kind, dish == NO_DISH ? NOTHING : dish, wanted);
            return true;
        }

        private boolean readWorths() {
            if (table.guests == 0) {
                return false;
            }
            for (int d = 0; d < table.dishes; d++) {
                int figure = nextFigure();
                if (figure == NO_FIGURE) {
                    return false;
                }
                table.setWorth(table.guests - 1, d, figure);
            }
            return nextByte() == ';';
        }

        private boolean readNumber(int k) {
            int figure = nextFigure();
            if (figure == NO_FIGURE) {
                return false;
            }
            int second = nextFigure();
            put(numbers, k, second == NO_FIGURE ? figure : 10 * figure + second);
            return true;
        }

        /** Goes on only if there is a figure. */
        private int nextFigure() {
            int sign = place < end ? at(text, place) : 0;
            if (sign < '0' || sign > '9') {
                return NO_FIGURE;
            }
            place++;
            return sign - '0';
        }

        private int nextByte() {
            int sign = place < end ? at(text, place) : -1;
            place++;
            return sign;
        }
    }

    /** All ways in which the dishes of one table can lie, numbered. */
    private static final class Layings {
        private static final int SLOTS = 2048;
        private static final int SPREAD = 0x9E3779B1;
        private static final int SPREAD_SHIFT = 21;

        int size;
        private final int[] lies = new int[MOST_LAYINGS];
        private final int[] slots = new int[SLOTS];

        /** Changes of two seats, over and over, lead to every way to lie. */
        void gather(int start, int guests) {
            size = 0;
            Arrays.fill(slots, NOWHERE);
            add(start);
            for (int k = 0; k < MOST_LAYINGS && k < size; k++) {
                for (int i = 0; i < guests; i++) {
                    for (int j = i + 1; j < guests; j++) {
                        add(changed(at(lies, k), i, j));
                    }
                }
            }
        }

        private void add(int lie) {
            int slot = slotOf(lie);
            if (at(slots, slot) == NOWHERE && size < MOST_LAYINGS) {
                put(slots, slot, size);
                put(lies, size, lie);
                size++;
            }
        }

        /** Where its number stands, or else would stand. */
        private int slotOf(int lie) {
            int slot = lie * SPREAD >>> SPREAD_SHIFT;
            for (int k = 0; k < SLOTS; k++) {
                int number = at(slots, slot);
                if (number == NOWHERE || at(lies, number) == lie) {
                    return slot;
                }
                slot = slot + 1 & SLOTS - 1;
            }
            return slot;
        }

        /** NOWHERE, if dishes can not lie so. */
        int numberOf(int lie) {
            return at(slots, slotOf(lie));
        }

        int lieOf(int number) {
            return at(lies, number);
        }
    }

    /** To which laying each asking leads from each laying; what was worked out is kept as far as there is room. */
    private static final class Moves {
        private static final long UNKNOWN = -1;

        final Table table;
        final Layings layings;
        private final long[] rows;

        Moves(Table table, Layings layings, int room) {
            this.table = table;
            this.layings = layings;
            rows = new long[Math.max(0, room)];
        }

        void forget() {
            Arrays.fill(rows, UNKNOWN);
        }

        /** Ten bits for each who may be asked, so that a table's rows stay few. */
        long rowOf(int laying, int asker) {
            int index = laying * MOST_GUESTS + asker;
            boolean hasRoom = index >= 0 && index < rows.length;
            if (hasRoom && rows[index] != UNKNOWN) {
                return rows[index];
            }
            int lie = layings.lieOf(laying);
            long row = 0;
            for (int asked = MOST_GUESTS - 1; asked >= 0; asked--) {
                boolean can = table.canBeAsked(lie, asker, asked);
                int to = can ? layings.numberOf(table.lieAfter(lie, asker, asked)) : NOWHERE;
                row = row << NUMBER_BITS | to;
            }
            if (hasRoom) {
                rows[index] = row;
            }
            return row;
        }

        /** NOWHERE, if he can not be asked. */
        static int target(long row, int asked) {
            return (int) (row >> NUMBER_BITS * asked) & NOWHERE;
        }

        boolean changeAnything(int laying) {
            for (int asker = 0; asker < table.guests; asker++) {
                long row = rowOf(laying, asker);
                for (int asked = 0; asked < table.guests; asked++) {
                    int to = target(row, asked);
                    if (to != NOWHERE && to != laying) {
                        return true;
                    }
                }
            }
            return false;
        }
    }

    /** Layings by how many askings lead to them from one; it goes on only as far as it is looked at. */
    private static final class Search {
        private static final int NOT_REACHED = -1;

        final Moves moves;
        int start = NOWHERE;
        private final int[] order = new int[MOST_LAYINGS];
        private final int[] steps = new int[MOST_LAYINGS];
        private final int[] openings = new int[MOST_LAYINGS];
        private int reached;
        private int opened;

        Search(Moves moves) {
            this.moves = moves;
        }

        void forget() {
            start = NOWHERE;
            reached = 0;
            opened = 0;
        }

        void startFrom(int laying) {
            if (laying == start) {
                return;
            }
            forget();
            start = laying;
            Arrays.fill(steps, NOT_REACHED);
            reach(laying, 0, 0);
        }

        /** The k-th laying that is reached in fewer steps than the limit, or NOWHERE. */
        private int reachedAs(int k, int limit) {
            int guests = moves.table.guests;
            for (; opened < MOST_LAYINGS && opened < reached && reached <= k && stepsAs(opened) < limit - 1; opened++) {
                int laying = at(order, opened);
                int depth = stepsAs(opened) + 1;
                for (int asker = 0; asker < guests; asker++) {
                    long row = moves.rowOf(laying, asker);
                    for (int asked = 0; asked < guests; asked++) {
                        int opening = depth == 1 ? 10 * asker + asked : at(openings, laying);
                        reach(Moves.target(row, asked), depth, opening);
                    }
                }
            }
            return k < reached && stepsAs(k) < limit ? at(order, k) : NOWHERE;
        }

        private int stepsAs(int k) {
            return at(steps, at(order, k));
        }

        /** NOWHERE is left alone. */
        private void reach(int laying, int depth, int opening) {
            if (laying >= 0 && laying < MOST_LAYINGS && steps[laying] == NOT_REACHED) {
                steps[laying] = depth;
                openings[laying] = opening;
                put(order, reached, laying);
                reached++;
            }
        }

        int stepsTo(int seat, int dish) {
            int k = firstWith(seat, dish);
            return k < 0 ? NONE : stepsAs(k);
        }

        /**
         * Askings are tried from the least on and layings in the order in which they are reached, so among
         * those of as many steps openings never fall: the first one that is met has the least.
         */
        int openingTo(int seat, int dish) {
            int k = firstWith(seat, dish);
            return k <= 0 ? NONE : at(openings, at(order, k));
        }

        private int firstWith(int seat, int dish) {
            if (seatOf(moves.table.laid, dish) < 0) {
                return -1;
            }
            for (int k = 0; k < MOST_LAYINGS; k++) {
                int laying = reachedAs(k, FAR);
                if (laying == NOWHERE) {
                    return -1;
                }
                if (before(moves.layings.lieOf(laying), seat) == dish) {
                    return k;
                }
            }
            return -1;
        }

        /** NONE, if it does not take fewer than the limit, too. */
        int stepsToRest(int limit) {
            for (int k = 0; k < MOST_LAYINGS; k++) {
                int laying = reachedAs(k, limit);
                if (laying == NOWHERE) {
                    return NONE;
                }
                if (moves.table.isAtRest(moves.layings.lieOf(laying))) {
                    return at(steps, laying);
                }
            }
            return NONE;
        }

        /** Which of these pairs of a guest and a dish come to be. */
        long pairsReached(long sought) {
            long met = 0;
            for (int k = 0; k < MOST_LAYINGS && met != sought; k++) {
                int laying = reachedAs(k, FAR);
                if (laying == NOWHERE) {
                    return met;
                }
                met |= sought & pairsOf(moves.layings.lieOf(laying));
            }
            return met;
        }
    }

    /** Sums over all askings: least prices, and by how many rows. */
    private static final class Sums {
        private final Moves moves;
        private final int[] prices = new int[MOST_LAYINGS];
        private long[] ways = new long[MOST_LAYINGS];
        private long[] waysNext = new long[MOST_LAYINGS];

        Sums(Moves moves) {
            this.moves = moves;
        }

        /**
         * The servant brings any dish that is there to anyone by one pass, so a row in which he passes at
         * all never costs less than that pass alone: only rows of askings cheaper than it are looked at.
         */
        int leastPrice(int start, int seat, int dish) {
            Arrays.fill(prices, FAR);
            put(prices, start, 0);
            if (before(moves.layings.lieOf(start), seat) == dish) {
                return 0;
            }
            for (int price = 0; price < moves.table.servant; price++) {
                for (int laying = 0; laying < moves.layings.size; laying++) {
                    if (at(prices, laying) == price) {
                        if (before(moves.layings.lieOf(laying), seat) == dish) {
                            return price;
                        }
                        spreadPrice(laying, price);
                    }
                }
            }
            return moves.table.servant;
        }

        private void spreadPrice(int laying, int price) {
            for (int asker = 0; asker < moves.table.guests; asker++) {
                long row = moves.rowOf(laying, asker);
                for (int asked = 0; asked < moves.table.guests; asked++) {
                    int to = Moves.target(row, asked);
                    int sum = price + moves.table.stepsBetween(asker, asked);
                    if (to != NOWHERE && sum < at(prices, to)) {
                        put(prices, to, sum);
                    }
                }
            }
        }

        long rowsBetween(int from, int to, int askings) {
            if (from < 0 || from >= MOST_LAYINGS || to < 0 || to >= MOST_LAYINGS) {
                return 0;
            }
            Arrays.fill(ways, 0);
            ways[from] = 1;
            for (int n = 0; n < askings; n++) {
                Arrays.fill(waysNext, 0);
                for (int laying = 0; laying < MOST_LAYINGS; laying++) {
                    if (ways[laying] != 0) {
                        spreadWays(laying, ways[laying]);
                    }
                }
                long[] spent = ways;
                ways = waysNext;
                waysNext = spent;
            }
            return ways[to];
        }

        private void spreadWays(int laying, long many) {
            for (int asker = 0; asker < moves.table.guests; asker++) {
                long row = moves.rowOf(laying, asker);
                for (int asked = 0; asked < moves.table.guests; asked++) {
                    int to = Moves.target(row, asked);
                    if (to < MOST_LAYINGS) {
                        waysNext[to] += many;
                    }
                }
            }
        }
    }

    /** The same table with one guest a HOLD, or with two who changed seats. */
    private static final class WhatIf {
        int holder;
        int heldUp;
        private int holderFrom = NOWHERE;
        private int seatsBest;
        private int seatsFrom = NOWHERE;

        private final Table real;
        private final Search realSearch;
        private final Table other;
        private final Search otherSearch;

        WhatIf(Table real, Search realSearch) {
            this.real = real;
            this.realSearch = realSearch;
            other = new Table();
            // Each search looks at a laying once, so that nothing would be gained by keeping its rows.
            otherSearch = new Search(new Moves(other, realSearch.moves.layings, 0));
        }

        void forget() {
            holderFrom = NOWHERE;
            seatsFrom = NOWHERE;
        }

        void findHolder() {
            if (holderFrom == realSearch.start) {
                return;
            }
            holderFrom = realSearch.start;
            holder = 0;
            heldUp = 0;
            long had = realSearch.pairsReached(real.wantedPairs());
            for (int g = 0; g < real.guests; g++) {
                makeHold(g);
                int many = Long.bitCount(had & ~otherSearch.pairsReached(had));
                if (many > heldUp) {
                    holder = g;
                    heldUp = many;
                }
            }
        }

        int bestSeats() {
            if (seatsFrom == realSearch.start) {
                return seatsBest;
            }
            seatsFrom = realSearch.start;
            seatsBest = NONE;
            int least = realSearch.stepsToRest(FAR);
            if (least == NONE && canBeAtRest()) {
                least = FAR;
            }
            for (int i = 0; i < real.guests; i++) {
                for (int j = i + 1; j < real.guests && least > 0; j++) {
                    changeSeats(i, j);
                    int otherSteps = otherSearch.stepsToRest(least);
                    if (otherSteps != NONE) {
                        least = otherSteps;
                        seatsBest = 10 * i + j;
                    }
                }
            }
            return seatsBest;
        }

        /** Whoever sits where, there is a laying with all at rest, or there is none: then no seats need a look. */
        private boolean canBeAtRest() {
            Layings layings = realSearch.moves.layings;
            for (int k = 0; k < layings.size; k++) {
                if (real.isAtRest(layings.lieOf(k))) {
                    return true;
                }
            }
            return false;
        }

        private void makeHold(int g) {
            other.become(real);
            other.setKind(g, HOLD);
            startOther();
        }

        private void changeSeats(int i, int j) {
            other.become(real);
            other.takeGuest(i, real, j);
            other.takeGuest(j, real, i);
            startOther();
        }

        private void startOther() {
            otherSearch.forget();
            otherSearch.startFrom(realSearch.start);
        }
    }

    /** How dishes lie, what was had, and the minutes. */
    private static final class Moment {
        int lie;
        long had;
        int minute;
    }

    /** Moments one behind the other; where there is no room, the oldest one goes. */
    private static final class Moments {
        int size;
        private final int room;
        private final int[] lies = new int[MOST_UNDONE];
        private final long[] hads = new long[MOST_UNDONE];
        private final int[] minutes = new int[MOST_UNDONE];

        Moments(int room) {
            this.room = Math.min(room, MOST_UNDONE);
        }

        void addLast(Moment moment) {
            if (size >= room) {
                dropOldest();
            }
            if (size >= 0 && size < MOST_UNDONE) {
                lies[size] = moment.lie;
                hads[size] = moment.had;
                minutes[size] = moment.minute;
                size++;
            }
        }

        private void dropOldest() {
            for (int k = 1; k < size && k < MOST_UNDONE; k++) {
                lies[k - 1] = lies[k];
                hads[k - 1] = hads[k];
                minutes[k - 1] = minutes[k];
            }
            size = Math.max(0, size - 1);
        }

        void takeLast(Moment into) {
            if (size > 0 && size <= MOST_UNDONE) {
                size--;
                into.lie = lies[size];
                into.had = hads[size];
                into.minute = minutes[size];
            }
        }
    }
}
