import java.util.Arrays;
import java.util.NoSuchElementException;

/** Mail between kiosks by buses that run to a timetable of the week. */
public final class VillageMail {
    private static final int KIOSKS = 8;
    private static final int BUSES = 4;
    private static final int STORES = KIOSKS + BUSES;
    private static final int KIOSK_ROOM = 24;
    private static final int BUS_ROOM = 10;

    private static final int WEEK = 10080;
    private static final int HORIZON = 20160;
    /** The horizon is two weeks and both its ends count, so it touches a third one. */
    private static final int WEEKS_TOUCHED = 3;
    private static final int LAST_MINUTE = 2000000000;
    private static final int LONGEST_WAIT = 20000;
    private static final int STOPS = 24;
    private static final int TIMETABLES = 6;

    private static final int LETTERS = 16;
    private static final int CLASSES = 3;
    private static final int TEXT_BYTES = 32;
    private static final int PIECE_BYTES = 8;
    private static final int PIECES = 4;
    private static final int LIFE = 7200;
    private static final int MOST_EACH_WAY = 40;

    private static final int BOXES = 3;
    private static final int GROUPS = 2;
    private static final int MOST_QUOTA = 200;

    private static final int UNKNOWN = 0;
    private static final int DELIVERED = 1;
    private static final int DAMAGED = 2;
    private static final int EXPIRED = 3;

    private static final int NONE = -1;
    private static final int NEVER = -1;
    /** Inside, an arrival that there is not is greater than any. */
    private static final int NO_ARRIVAL = 0x7fffffff;

    private int clock;
    private final Timetable draft;
    private final Timetable[] published;
    private int publications;
    private final Store[] stores;
    private final Boxes[] boxes;
    private final Letter[] letters;
    private int letterCount;
    private final long[] text;
    private int textLength;
    private final Ride fromKiosk;
    private final Ride fromBus;
    private final Offers busOffers;
    private final Offers kioskOffers;
    private int lastGiver;
    private int lastPiece;

    public VillageMail() {
        draft = new Timetable();
        published = new Timetable[TIMETABLES + 1];
        for (int i = 0; i <= TIMETABLES; i++) {
            published[i] = new Timetable();
        }
        stores = new Store[STORES];
        for (int i = 0; i < STORES; i++) {
            stores[i] = new Store(i < KIOSKS ? KIOSK_ROOM : BUS_ROOM);
        }
        boxes = new Boxes[KIOSKS];
        for (int i = 0; i < KIOSKS; i++) {
            boxes[i] = new Boxes();
        }
        letters = new Letter[LETTERS];
        for (int i = 0; i < LETTERS; i++) {
            letters[i] = new Letter();
        }
        text = new long[PIECES];
        fromKiosk = new Ride();
        fromBus = new Ride();
        busOffers = new Offers();
        kioskOffers = new Offers();
    }

    // The postmaster's timetable.

    public int stop(int bus, int kiosk, int minute) throws IllegalArgumentException, IllegalStateException {
        demand(isBus(bus) && isKiosk(kiosk) && isWithin(minute, WEEK));
        if (draft.find(bus, minute) != NONE || draft.count == STOPS) {
            throw new IllegalStateException();
        }
        draft.insert(bus, kiosk, minute);
        return draft.count;
    }

    public boolean cancel(int bus, int minute) {
        int at = draft.find(bus, minute);
        if (at == NONE) {
            return false;
        }
        draft.takeOut(at);
        return true;
    }

    public int publish() throws IllegalStateException {
        if (publications == TIMETABLES) {
            throw new IllegalStateException();
        }
        publications++;
        published[publications].become(draft);
        stores[0].timetable = publications;
        return publications;
    }

    public int best(int kiosk, int goal, int minute) throws IllegalArgumentException {
        demand(isKiosk(kiosk) && isKiosk(goal) && minute >= 0 && minute <= LAST_MINUTE);
        return arrival(publications, kiosk, goal, minute);
    }

    private int arrival(int timetable, int kiosk, int goal, int minute) {
        fromKiosk.startAtKiosk(published[timetable], kiosk, minute);
        int came = fromKiosk.came[goal];
        return came == NO_ARRIVAL ? NEVER : came;
    }

    // Boxes and groups.

    public void household(int kiosk, int box, int quota) throws IllegalArgumentException {
        demand(isBox(kiosk, box) && isWithin(quota, MOST_QUOTA + 1));
        boxes[kiosk].each[box].quota = quota;
        lookAtAllOf(kiosk);
    }

    public boolean group(int kiosk, int g, int box) throws IllegalArgumentException {
        demand(isBox(kiosk, box) && isWithin(g, GROUPS));
        boolean isIn = boxes[kiosk].toggle(g, box);
        if (isIn) {
            lookAtAllOf(kiosk);
        }
        return isIn;
    }

    public int box(int kiosk, int box, int what) throws IllegalArgumentException {
        demand(isBox(kiosk, box) && isWithin(what, 3));
        Box asked = boxes[kiosk].each[box];
        if (what == 0) {
            return asked.count;
        }
        return what == 1 ? asked.bytes : asked.quota;
    }

    public int read(int kiosk, int box, int k, int i) throws IllegalArgumentException, IndexOutOfBoundsException {
        demand(isBox(kiosk, box));
        Box opened = boxes[kiosk].each[box];
        demandIndex(k, opened.count);
        Letter letter = letters[opened.letters[k]];
        demandIndex(i, letter.length);
        return byteAt(letter.received[i / PIECE_BYTES], i % PIECE_BYTES);
    }

    public int remove(int kiosk, int box, int k) throws IllegalArgumentException, IndexOutOfBoundsException {
        demand(isBox(kiosk, box));
        Box opened = boxes[kiosk].each[box];
        demandIndex(k, opened.count);
        int letter = opened.letters[k];
        opened.takeOut(k, letters[letter].length);
        lookAtAllOf(kiosk);
        return letter;
    }

    // Letters.

    public boolean key(int b) {
        if (textLength == TEXT_BYTES) {
            return false;
        }
        int piece = textLength / PIECE_BYTES;
        text[piece] = text[piece] ^ shifted(b, textLength % PIECE_BYTES);
        textLength++;
        return true;
    }

    public int post(int kiosk, int goal, int box, int sort) throws IllegalArgumentException, IllegalStateException {
        demand(isKiosk(kiosk) && isKiosk(goal) && isWithin(box, BOXES + GROUPS) && isWithin(sort, CLASSES));
        demand(textLength > 0);
        if (letterCount == LETTERS || stores[kiosk].room() < piecesIn(textLength)) {
            throw new IllegalStateException();
        }
        int number = letterCount;
        letterCount++;
        Letter letter = letters[number];
        letter.from = kiosk;
        letter.goal = goal;
        letter.box = box;
        letter.sort = sort;
        letter.posted = clock;
        letter.promised = arrival(stores[kiosk].timetable, kiosk, goal, clock);
        letter.length = textLength;
        letter.sum = sumOf(text, textLength);
        handOverText(stores[kiosk], number);
        if (kiosk == goal) {
            lookAt(number);
        }
        return number;
    }

    private void handOverText(Store store, int number) {
        int pieces = piecesIn(textLength);
        for (int i = 0; i < pieces; i++) {
            store.take(number * PIECES + i, text[i], 0);
        }
        Arrays.fill(text, 0L);
        textLength = 0;
    }

    public int status(int letter) throws IllegalArgumentException {
        demand(isWithin(letter, letterCount));
        int known = stores[letters[letter].from].known[letter];
        return known == UNKNOWN && letters[letter].expired ? EXPIRED : known;
    }

    public int custodians(int letter) throws IllegalArgumentException {
        demand(isWithin(letter, letterCount));
        int bits = 0;
        for (int i = 0; i < STORES; i++) {
            if (stores[i].countOf(letter) > 0) {
                bits |= 1 << i;
            }
        }
        return bits;
    }

    public int promise(int letter) throws IllegalArgumentException {
        demand(isWithin(letter, letterCount));
        return letters[letter].promised;
    }

    // The clock.

    public int minute(int n) throws IllegalArgumentException {
        demand(n >= 1 && n <= LONGEST_WAIT);
        clock++;
        expireWhatIsDue();
        for (int i = 0; i < letterCount; i++) {
            lookAt(i);
        }
        // What waits behind that look would wait behind the later minutes' looks, too:
        // a look gives no box more room, so only what expires is still to be done.
        clock += n - 1;
        expireWhatIsDue();
        return clock;
    }

    private void expireWhatIsDue() {
        for (int i = 0; i < letterCount; i++) {
            Letter letter = letters[i];
            if (!letter.isOver && clock - letter.posted >= LIFE) {
                letter.isOver = true;
                letter.expired = stores[letter.goal].known[i] == UNKNOWN;
                dropCopies(i, letter.expired);
            }
        }
    }

    private void dropCopies(int letter, boolean counts) {
        for (int i = 0; i < STORES; i++) {
            if (counts && stores[i].countOf(letter) > 0) {
                stores[i].expiredLetters++;
            }
            stores[i].freeAllOf(letter);
        }
    }

    // Looking at letters in their goal kiosk.

    private void lookAtAllOf(int kiosk) {
        for (int i = 0; i < letterCount; i++) {
            if (letters[i].goal == kiosk) {
                lookAt(i);
            }
        }
    }

    private void lookAt(int number) {
        Letter letter = letters[number];
        Store goal = stores[letter.goal];
        // A letter that the goal knows of is never put into a box again.
        if (goal.known[number] != UNKNOWN || goal.countOf(number) < piecesIn(letter.length)) {
            return;
        }
        System.arraycopy(goal.bytes, number * PIECES, letter.received, 0, PIECES);
        if (sumOf(letter.received, letter.length) != letter.sum) {
            goal.learnOf(number, DAMAGED);
        } else if (boxes[letter.goal].putInto(letter.box, number, letter.length)) {
            goal.learnOf(number, DELIVERED);
        }
    }

    // Meetings.

    public int meet(int bus, int kiosk, int n) throws IllegalArgumentException {
        demand(isBus(bus) && isKiosk(kiosk) && isWithin(n, MOST_EACH_WAY + 1));
        return hold(bus, kiosk, n);
    }

    public int breakOff(int bus, int kiosk, int n) throws IllegalArgumentException {
        demand(isBus(bus) && isKiosk(kiosk) && isWithin(n, MOST_EACH_WAY + 1));
        int moved = hold(bus, kiosk, n);
        // Which piece is the last one is plain only now, so its giver's learning is taken back.
        if (moved > 0) {
            stores[lastGiver].unlearn(lastPiece);
        }
        return moved;
    }

    private int hold(int bus, int kiosk, int n) {
        shareTimetable(stores[bus], stores[kiosk]);
        shareNews(stores[bus], stores[kiosk]);
        settleOffers(bus, kiosk);
        int moved = moveOffered(busOffers, bus, kiosk, n);
        return moved + moveOffered(kioskOffers, kiosk, bus, n);
    }

    private static void shareTimetable(Store one, Store other) {
        int newer = Math.max(one.timetable, other.timetable);
        one.timetable = newer;
        other.timetable = newer;
    }

    private void shareNews(Store one, Store other) {
        for (int i = 0; i < letterCount * PIECES; i++) {
            int most = Math.max(one.news[i], other.news[i]);
            one.learnHops(i, most);
            other.learnHops(i, most);
        }
        for (int i = 0; i < letterCount; i++) {
            int fate = firmer(one.known[i], other.known[i]);
            one.learnOf(i, fate);
            other.learnOf(i, fate);
        }
    }

    private static int firmer(int one, int other) {
        if (one == UNKNOWN || other == UNKNOWN) {
            return Math.max(one, other);
        }
        return one == DELIVERED ? one : other;
    }

    private void settleOffers(int bus, int kiosk) {
        Timetable timetable = published[stores[bus].timetable];
        fromKiosk.startAtKiosk(timetable, kiosk, clock + 1);
        fromBus.startOnBus(timetable, bus, clock);
        busOffers.count = 0;
        kioskOffers.count = 0;
        for (int sort = 0; sort < CLASSES; sort++) {
            for (int i = 0; i < letterCount; i++) {
                if (letters[i].sort == sort) {
                    offerPiecesOf(i, bus, kiosk);
                }
            }
        }
    }

    /** Copies of letters known as delivered or damaged have been freed: none of them is offered. */
    private void offerPiecesOf(int letter, int bus, int kiosk) {
        int goal = letters[letter].goal;
        int byKiosk = fromKiosk.came[goal];
        int byBus = fromBus.came[goal];
        boolean busGives = goal == kiosk || byKiosk < byBus;
        boolean kioskGives = goal != kiosk && byBus != NO_ARRIVAL && byBus <= byKiosk;
        for (int i = letter * PIECES; i < (letter + 1) * PIECES; i++) {
            if (busGives && stores[bus].has(i)) {
                busOffers.add(i);
            }
            if (kioskGives && stores[kiosk].has(i)) {
                kioskOffers.add(i);
            }
        }
    }

    private int moveOffered(Offers offers, int giver, int taker, int n) {
        int moved = 0;
        for (int i = 0; i < offers.count && moved < n; i++) {
            int piece = offers.pieces[i];
            if (movePiece(piece, stores[giver], stores[taker])) {
                moved++;
                lastGiver = giver;
                lastPiece = piece;
                if (letters[piece / PIECES].goal == taker) {
                    lookAt(piece / PIECES);
                }
            }
        }
        return moved;
    }

    private static boolean movePiece(int piece, Store from, Store to) {
        if (to.has(piece)) {
            return false;
        }
        if (to.room() == 0) {
            to.refusals++;
            return false;
        }
        int hops = from.hops[piece] + 1;
        to.take(piece, from.bytes[piece], hops);
        from.learnHops(piece, hops);
        return true;
    }

    // Stores.

    public void reboot(int store) throws IllegalArgumentException {
        demand(isStore(store));
        Store rebooted = stores[store];
        rebooted.timetable = 0;
        rebooted.forgetPieces();
        for (int i = 0; i < letterCount; i++) {
            if (letters[i].goal != store && letters[i].from != store) {
                rebooted.known[i] = UNKNOWN;
            }
        }
    }

    public int spoil(int store, int letter, int piece, int i, int mask)
            throws IllegalArgumentException, NoSuchElementException {
        demand(isStore(store) && isWithin(letter, letterCount));
        int length = letters[letter].length;
        demand(isWithin(piece, piecesIn(length)));
        demand(isWithin(i, Math.min(PIECE_BYTES, length - piece * PIECE_BYTES)));
        Store holder = stores[store];
        int copy = letter * PIECES + piece;
        if (!holder.has(copy)) {
            throw new NoSuchElementException();
        }
        holder.bytes[copy] ^= shifted(mask, i);
        return byteAt(holder.bytes[copy], i);
    }

    public int store(int store, int what) throws IllegalArgumentException {
        demand(isStore(store) && isWithin(what, 4));
        Store asked = stores[store];
        switch (what) {
            case 0:
                return asked.room();
            case 1:
                return asked.timetable;
            case 2:
                return asked.expiredLetters;
            default:
                return asked.refusals;
        }
    }

    // What arguments may be.

    private static void demand(boolean holds) throws IllegalArgumentException {
        if (!holds) {
            throw new IllegalArgumentException();
        }
    }

    private static void demandIndex(int index, int bound) throws IndexOutOfBoundsException {
        if (!isWithin(index, bound)) {
            throw new IndexOutOfBoundsException();
        }
    }

    private static boolean isWithin(int number, int bound) {
        return number >= 0 && number < bound;
    }

    private static boolean isKiosk(int number) {
        return isWithin(number, KIOSKS);
    }

    private static boolean isBus(int number) {
        return number >= KIOSKS && number < STORES;
    }

    private static boolean isStore(int number) {
        return isWithin(number, STORES);
    }

    private static boolean isBox(int kiosk, int box) {
        return isKiosk(kiosk) && isWithin(box, BOXES);
    }

    // Bytes: a piece's eight lie in one long, the first one lowest, to keep an object small.

    private static int piecesIn(int length) {
        return (length + PIECE_BYTES - 1) / PIECE_BYTES;
    }

    private static int byteAt(long piece, int i) {
        return (int) (piece >>> (8 * i)) & 255;
    }

    private static long shifted(int b, int i) {
        return (b & 255L) << (8 * i);
    }

    private static int sumOf(long[] pieces, int length) {
        int sum = 0;
        for (int i = 0; i < length; i++) {
            sum = (sum << 5 | sum >>> 27) ^ byteAt(pieces[i / PIECE_BYTES], i % PIECE_BYTES);
        }
        return sum;
    }

    /** Stops of buses, in the order of the week's minutes. */
    private static final class Timetable {
        final int[] buses;
        final int[] kiosks;
        final int[] minutes;
        int count;

        Timetable() {
            buses = new int[STOPS];
            kiosks = new int[STOPS];
            minutes = new int[STOPS];
        }

        int find(int bus, int minute) {
            for (int i = 0; i < count; i++) {
                if (buses[i] == bus && minutes[i] == minute) {
                    return i;
                }
            }
            return NONE;
        }

        void insert(int bus, int kiosk, int minute) {
            int at = count;
            while (at > 0 && minutes[at - 1] > minute) {
                set(at, buses[at - 1], kiosks[at - 1], minutes[at - 1]);
                at--;
            }
            set(at, bus, kiosk, minute);
            count++;
        }

        void takeOut(int at) {
            count--;
            for (int i = at; i < count; i++) {
                set(i, buses[i + 1], kiosks[i + 1], minutes[i + 1]);
            }
        }

        void become(Timetable other) {
            count = other.count;
            for (int i = 0; i < count; i++) {
                set(i, other.buses[i], other.kiosks[i], other.minutes[i]);
            }
        }

        void set(int at, int bus, int kiosk, int minute) {
            buses[at] = bus;
            kiosks[at] = kiosk;
            minutes[at] = minute;
        }
    }

    /** How early one comes to each kiosk from one place, by a timetable's stops in the order of time. */
    private static final class Ride {
        final int[] came;
        final int[] canLeave;
        final boolean[] aboard;

        Ride() {
            came = new int[KIOSKS];
            canLeave = new int[KIOSKS];
            aboard = new boolean[BUSES];
        }

        void startAtKiosk(Timetable timetable, int kiosk, int minute) {
            clear();
            came[kiosk] = minute;
            canLeave[kiosk] = minute;
            goBy(timetable, minute, minute + HORIZON);
        }

        void startOnBus(Timetable timetable, int bus, int minute) {
            clear();
            aboard[bus - KIOSKS] = true;
            goBy(timetable, minute + 1, minute + HORIZON);
        }

        void clear() {
            Arrays.fill(came, NO_ARRIVAL);
            Arrays.fill(canLeave, NO_ARRIVAL);
            for (int i = 0; i < BUSES; i++) {
                aboard[i] = false;
            }
        }

        void goBy(Timetable timetable, int first, int last) {
            int week = first - Math.floorMod(first, WEEK);
            for (int w = 0; w < WEEKS_TOUCHED; w++) {
                for (int i = 0; i < timetable.count; i++) {
                    int minute = week + timetable.minutes[i];
                    if (minute >= first && minute <= last) {
                        seeStop(timetable.buses[i] - KIOSKS, timetable.kiosks[i], minute);
                    }
                }
                week += WEEK;
            }
        }

        /** One who can be on a bus need not leave it, so aboard stays; stops of one minute do not touch each other. */
        void seeStop(int bus, int kiosk, int minute) {
            if (aboard[bus] && came[kiosk] == NO_ARRIVAL) {
                came[kiosk] = minute;
                canLeave[kiosk] = minute + 1;
            }
            if (canLeave[kiosk] <= minute) {
                aboard[bus] = true;
            }
        }
    }

    private static final class Letter {
        int from;
        int goal;
        int box;
        int sort;
        int posted;
        int promised;
        int length;
        int sum;
        boolean isOver;
        boolean expired;
        /** What its goal had in hand: by an equal sum it need not be what was posted. */
        final long[] received;

        Letter() {
            received = new long[PIECES];
        }
    }

    /** Copies and news of a kiosk or a bus; piece p of letter l has the index l * PIECES + p. */
    private static final class Store {
        final int capacity;
        final int[] hops;
        final int[] news;
        final long[] bytes;
        final int[] known;
        int copies;
        int timetable;
        int expiredLetters;
        int refusals;

        Store(int capacity) {
            this.capacity = capacity;
            hops = new int[LETTERS * PIECES];
            Arrays.fill(hops, NONE);
            news = new int[LETTERS * PIECES];
            bytes = new long[LETTERS * PIECES];
            known = new int[LETTERS];
        }

        int room() {
            return capacity - copies;
        }

        boolean has(int piece) {
            return hops[piece] != NONE;
        }

        int countOf(int letter) {
            int count = 0;
            for (int i = letter * PIECES; i < (letter + 1) * PIECES; i++) {
                if (has(i)) {
                    count++;
                }
            }
            return count;
        }

        void take(int piece, long content, int itsHops) {
            hops[piece] = itsHops;
            news[piece] = itsHops;
            bytes[piece] = content;
            copies++;
        }

        void free(int piece) {
            if (has(piece)) {
                hops[piece] = NONE;
                copies--;
            }
        }

        void freeAllOf(int letter) {
            for (int i = letter * PIECES; i < (letter + 1) * PIECES; i++) {
                free(i);
            }
        }

        void learnHops(int piece, int heard) {
            news[piece] = heard;
            if (heard > hops[piece]) {
                free(piece);
            }
        }

        /** Takes back that the store learned of the giving of a piece: a freed copy's bytes lie there still. */
        void unlearn(int piece) {
            news[piece]--;
            hops[piece] = news[piece];
            copies++;
        }

        void learnOf(int letter, int fate) {
            known[letter] = fate;
            if (fate != UNKNOWN) {
                freeAllOf(letter);
            }
        }

        void forgetPieces() {
            for (int i = 0; i < LETTERS * PIECES; i++) {
                if (!has(i)) {
                    news[i] = 0;
                }
            }
        }
    }

    private static final class Box {
        final int[] letters;
        int count;
        int bytes;
        int quota;

        Box() {
            letters = new int[LETTERS];
            quota = NONE;
        }

        boolean fits(int length) {
            return bytes + length <= quota;
        }

        void put(int letter, int length) {
            letters[count] = letter;
            count++;
            bytes += length;
        }

        void takeOut(int k, int length) {
            count--;
            bytes -= length;
            for (int i = k; i < count; i++) {
                letters[i] = letters[i + 1];
            }
        }
    }

    /** The boxes of a kiosk, and its groups as bits of boxes. */
    private static final class Boxes {
        final Box[] each;
        final int[] groups;

        Boxes() {
            each = new Box[BOXES];
            for (int i = 0; i < BOXES; i++) {
                each[i] = new Box();
            }
            groups = new int[GROUPS];
        }

        boolean toggle(int g, int box) {
            groups[g] ^= 1 << box;
            return (groups[g] >> box & 1) == 1;
        }

        int addressedBy(int address) {
            return address < BOXES ? 1 << address : groups[address - BOXES];
        }

        boolean putInto(int address, int letter, int length) {
            int addressed = addressedBy(address);
            if (addressed == 0 || !allFit(addressed, length)) {
                return false;
            }
            for (int i = 0; i < BOXES; i++) {
                if ((addressed >> i & 1) == 1) {
                    each[i].put(letter, length);
                }
            }
            return true;
        }

        boolean allFit(int addressed, int length) {
            for (int i = 0; i < BOXES; i++) {
                if ((addressed >> i & 1) == 1 && !each[i].fits(length)) {
                    return false;
                }
            }
            return true;
        }
    }

    /** The pieces that one side of a meeting offers, in their order: no more than a kiosk has room for. */
    private static final class Offers {
        final int[] pieces;
        int count;

        Offers() {
            pieces = new int[KIOSK_ROOM];
        }

        void add(int piece) {
            pieces[count] = piece;
            count++;
        }
    }
}
