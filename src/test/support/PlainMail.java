import java.util.ArrayList;
import java.util.Arrays;
import java.util.HashMap;
import java.util.List;
import java.util.Map;
import java.util.NoSuchElementException;

/** The document once more, told as slowly and plainly as it goes: what the program is compared with. */
final class PlainMail {
    static final class Copy {
        final int hops;
        final int[] bytes;

        Copy(int hops, int[] bytes) {
            this.hops = hops;
            this.bytes = bytes.clone();
        }
    }

    static final class Place {
        final int number;
        int timetable = 0;
        int expired = 0;
        int refusals = 0;
        final Map<Integer, Copy> copies = new HashMap<>();
        final Map<Integer, Integer> hopNews = new HashMap<>();
        final Map<Integer, String> letterNews = new HashMap<>();

        Place(int number) {
            this.number = number;
        }

        Place(Place p) {
            number = p.number;
            timetable = p.timetable;
            expired = p.expired;
            refusals = p.refusals;
            copies.putAll(p.copies);
            hopNews.putAll(p.hopNews);
            letterNews.putAll(p.letterNews);
        }

        int room() {
            return (number < 8 ? 24 : 10) - copies.size();
        }

        int news(int id) {
            return hopNews.getOrDefault(id, 0);
        }

        void settle() {
            copies.entrySet().removeIf(e ->
                news(e.getKey()) > e.getValue().hops || letterNews.containsKey(e.getKey() / 10));
        }
    }

    static final class Note {
        int number;
        int[] bytes;
        int from;
        int goal;
        int box;
        int sort;
        int posted;
        int promised;
        boolean expired;

        int pieces() {
            return (bytes.length + 7) / 8;
        }
    }

    static final class Slot {
        int quota = -1;
        final List<Integer> letters = new ArrayList<>();
        final List<int[]> contents = new ArrayList<>();

        int bytes() {
            return contents.stream().mapToInt(c -> c.length).sum();
        }
    }

    private int now = 0;
    private final List<int[]> draft = new ArrayList<>();
    private final List<int[][][]> published = new ArrayList<>();
    private List<Place> places = new ArrayList<>();
    private final Slot[][] slots = new Slot[8][3];
    private final boolean[][][] groups = new boolean[8][2][3];
    private final List<Note> notes = new ArrayList<>();
    private final List<Integer> text = new ArrayList<>();

    PlainMail() {
        published.add(week(draft));
        for (int i = 0; i < 12; i++) {
            places.add(new Place(i));
        }
        for (Slot[] row : slots) {
            for (int i = 0; i < 3; i++) {
                row[i] = new Slot();
            }
        }
    }

    private static void argument(boolean good) {
        if (!good) {
            throw new IllegalArgumentException();
        }
    }

    private static boolean in(int x, int from, int to) {
        return from <= x && x <= to;
    }

    int stop(int bus, int kiosk, int minute) {
        argument(in(bus, 8, 11) && in(kiosk, 0, 7) && in(minute, 0, 10079));
        if (draft.size() == 24 || draft.stream().anyMatch(s -> s[0] == bus && s[2] == minute)) {
            throw new IllegalStateException();
        }
        draft.add(new int[] {bus, kiosk, minute});
        return draft.size();
    }

    boolean cancel(int bus, int minute) {
        return draft.removeIf(s -> s[0] == bus && s[2] == minute);
    }

    int publish() {
        if (published.size() == 7) {
            throw new IllegalStateException();
        }
        published.add(week(draft));
        places.get(0).timetable = published.size() - 1;
        return published.size() - 1;
    }

    /** For each minute of the week the stops at it. */
    private static int[][][] week(List<int[]> stops) {
        int[][][] week = new int[10080][0][];
        for (int[] s : stops) {
            int[][] more = Arrays.copyOf(week[s[2]], week[s[2]].length + 1);
            more[more.length - 1] = s;
            week[s[2]] = more;
        }
        return week;
    }

    /** Goes through all minutes: which kiosks one can be at and which buses one can be on. */
    private long[] arrivals(int timetable, int place, int minute) {
        int[][][] week = published.get(timetable);
        long[] first = new long[12];
        Arrays.fill(first, Long.MAX_VALUE);
        first[place] = place < 8 ? minute - 1L : minute;
        for (long m = place < 8 ? minute : minute + 1L; m <= minute + 20160L; m++) {
            for (int[] s : week[(int) (m % 10080)]) {
                boolean canAlight = first[s[0]] < m;
                boolean canBoard = first[s[1]] < m;
                if (canAlight) {
                    first[s[1]] = Math.min(first[s[1]], m);
                }
                if (canBoard) {
                    first[s[0]] = Math.min(first[s[0]], m);
                }
            }
        }
        if (place < 8) {
            first[place] = minute;
        }
        return first;
    }

    private int arrival(int timetable, int kiosk, int goal, int minute) {
        long found = arrivals(timetable, kiosk, minute)[goal];
        return found == Long.MAX_VALUE ? -1 : (int) found;
    }

    int best(int kiosk, int goal, int minute) {
        argument(in(kiosk, 0, 7) && in(goal, 0, 7) && in(minute, 0, 2000000000));
        return arrival(published.size() - 1, kiosk, goal, minute);
    }

    void household(int kiosk, int box, int quota) {
        argument(in(kiosk, 0, 7) && in(box, 0, 2) && in(quota, 0, 200));
        slots[kiosk][box].quota = quota;
        lookAtAll(kiosk);
    }

    boolean group(int kiosk, int g, int box) {
        argument(in(kiosk, 0, 7) && in(g, 0, 1) && in(box, 0, 2));
        groups[kiosk][g][box] = !groups[kiosk][g][box];
        if (groups[kiosk][g][box]) {
            lookAtAll(kiosk);
        }
        return groups[kiosk][g][box];
    }

    boolean key(int b) {
        return text.size() < 32 && text.add(b & 255);
    }

    int post(int kiosk, int goal, int box, int sort) {
        argument(in(kiosk, 0, 7) && in(goal, 0, 7) && in(box, 0, 4) && in(sort, 0, 2) && !text.isEmpty());
        Note note = new Note();
        note.bytes = text.stream().mapToInt(i -> i).toArray();
        if (notes.size() == 16 || places.get(kiosk).room() < note.pieces()) {
            throw new IllegalStateException();
        }
        text.clear();
        note.number = notes.size();
        note.from = kiosk;
        note.goal = goal;
        note.box = box;
        note.sort = sort;
        note.posted = now;
        note.promised = arrival(places.get(kiosk).timetable, kiosk, goal, now);
        notes.add(note);
        for (int p = 0; p < note.pieces(); p++) {
            int[] bytes = Arrays.copyOfRange(note.bytes, 8 * p, Math.min(8 * p + 8, note.bytes.length));
            places.get(kiosk).copies.put(note.number * 10 + p, new Copy(0, bytes));
        }
        if (kiosk == goal) {
            look(note);
        }
        return note.number;
    }

    int letters() {
        return notes.size();
    }

    private void lookAtAll(int kiosk) {
        for (Note note : notes) {
            if (note.goal == kiosk) {
                look(note);
            }
        }
    }

    private static long sum(int[] bytes) {
        long sum = 0;
        for (int b : bytes) {
            sum = (sum * 32 % 4294967296L + sum / 134217728L) ^ b;
        }
        return sum;
    }

    private void look(Note note) {
        Place goal = places.get(note.goal);
        if (goal.letterNews.containsKey(note.number)) {
            return;
        }
        int[] bytes = new int[note.bytes.length];
        for (int p = 0; p < note.pieces(); p++) {
            Copy copy = goal.copies.get(note.number * 10 + p);
            if (copy == null) {
                return;
            }
            System.arraycopy(copy.bytes, 0, bytes, 8 * p, copy.bytes.length);
        }
        if (sum(bytes) != sum(note.bytes)) {
            goal.letterNews.put(note.number, "DAMAGED");
            goal.settle();
            return;
        }
        List<Slot> meant = new ArrayList<>();
        for (int b = 0; b < 3; b++) {
            if (note.box == b || note.box > 2 && groups[note.goal][note.box - 3][b]) {
                meant.add(slots[note.goal][b]);
            }
        }
        if (meant.isEmpty() || meant.stream().anyMatch(s -> s.quota < 0 || s.quota - s.bytes() < bytes.length)) {
            return;
        }
        for (Slot s : meant) {
            s.letters.add(note.number);
            s.contents.add(bytes);
        }
        goal.letterNews.put(note.number, "DELIVERED");
        goal.settle();
    }

    int minute(int n) {
        argument(in(n, 1, 20000));
        for (int i = 0; i < n; i++) {
            now++;
            for (Note note : notes) {
                if (now == note.posted + 7200) {
                    expire(note);
                }
            }
            for (Note note : notes) {
                look(note);
            }
        }
        return now;
    }

    private void expire(Note note) {
        note.expired = !places.get(note.goal).letterNews.containsKey(note.number);
        for (Place place : places) {
            boolean had = place.copies.keySet().removeIf(id -> id / 10 == note.number);
            if (had && note.expired) {
                place.expired++;
            }
        }
    }

    int meet(int bus, int kiosk, int n) {
        argument(in(bus, 8, 11) && in(kiosk, 0, 7) && in(n, 0, 40));
        return hold(bus, kiosk, n, -1, true);
    }

    /** Held twice: the first time only to count the pieces, so that the last one is known the second time. */
    int breakOff(int bus, int kiosk, int n) {
        argument(in(bus, 8, 11) && in(kiosk, 0, 7) && in(n, 0, 40));
        List<Place> before = new ArrayList<>();
        for (Place place : places) {
            before.add(new Place(place));
        }
        int moved = hold(bus, kiosk, n, -1, false);
        places = before;
        int again = hold(bus, kiosk, n, moved, true);
        if (moved != again) {
            throw new RuntimeException("the model does not know which piece is the last");
        }
        return moved;
    }

    private int hold(int busNumber, int kioskNumber, int n, int unheard, boolean inEarnest) {
        Place bus = places.get(busNumber);
        Place kiosk = places.get(kioskNumber);
        bus.timetable = Math.max(bus.timetable, kiosk.timetable);
        kiosk.timetable = bus.timetable;
        tell(bus, kiosk);
        tell(kiosk, bus);
        bus.settle();
        kiosk.settle();
        long[] byKiosk = arrivals(bus.timetable, kioskNumber, now + 1);
        long[] byBus = arrivals(bus.timetable, busNumber, now);
        List<Integer> down = new ArrayList<>();
        List<Integer> up = new ArrayList<>();
        for (int id : bus.copies.keySet()) {
            int goal = notes.get(id / 10).goal;
            if (goal == kioskNumber || byKiosk[goal] < byBus[goal]) {
                down.add(id);
            }
        }
        for (int id : kiosk.copies.keySet()) {
            int goal = notes.get(id / 10).goal;
            if (goal != kioskNumber && byBus[goal] != Long.MAX_VALUE && byBus[goal] <= byKiosk[goal]) {
                up.add(id);
            }
        }
        int moved = move(down, bus, kiosk, n, unheard, inEarnest);
        return moved + move(up, kiosk, bus, n, unheard - moved, inEarnest);
    }

    private static void tell(Place teller, Place hearer) {
        for (Map.Entry<Integer, Integer> e : teller.hopNews.entrySet()) {
            hearer.hopNews.merge(e.getKey(), e.getValue(), Math::max);
        }
        for (Map.Entry<Integer, Copy> e : teller.copies.entrySet()) {
            hearer.hopNews.merge(e.getKey(), e.getValue().hops, Math::max);
        }
        for (Map.Entry<Integer, String> e : teller.letterNews.entrySet()) {
            hearer.letterNews.merge(e.getKey(), e.getValue(), (a, b) -> a.equals("DELIVERED") ? a : b);
        }
    }

    private int move(List<Integer> offered, Place giver, Place taker, int n, int unheard, boolean inEarnest) {
        offered.sort((a, b) -> {
            int byClass = Integer.compare(notes.get(a / 10).sort, notes.get(b / 10).sort);
            return byClass != 0 ? byClass : Integer.compare(a, b);
        });
        int moved = 0;
        for (int id : offered) {
            if (moved == n || taker.copies.containsKey(id)) {
                continue;
            }
            if (taker.room() == 0) {
                taker.refusals++;
                continue;
            }
            Copy given = giver.copies.get(id);
            taker.copies.put(id, new Copy(given.hops + 1, given.bytes));
            taker.hopNews.put(id, given.hops + 1);
            moved++;
            if (moved != unheard) {
                giver.hopNews.put(id, given.hops + 1);
                giver.settle();
            }
            Note note = notes.get(id / 10);
            if (note.goal == taker.number) {
                if (inEarnest) {
                    look(note);
                } else {
                    lookWithoutBoxes(note);
                }
            }
        }
        return moved;
    }

    /** For the count: what a look would free, with the boxes as they were behind it. */
    private void lookWithoutBoxes(Note note) {
        int[] lay = new int[3];
        for (int b = 0; b < 3; b++) {
            lay[b] = slots[note.goal][b].letters.size();
        }
        look(note);
        for (int b = 0; b < 3; b++) {
            Slot slot = slots[note.goal][b];
            while (slot.letters.size() > lay[b]) {
                slot.letters.remove(slot.letters.size() - 1);
                slot.contents.remove(slot.contents.size() - 1);
            }
        }
    }

    void reboot(int store) {
        argument(in(store, 0, 11));
        Place place = places.get(store);
        place.timetable = 0;
        place.hopNews.keySet().removeIf(id -> !place.copies.containsKey(id));
        place.letterNews.keySet().removeIf(l -> notes.get(l).goal != store && notes.get(l).from != store);
    }

    int spoil(int store, int letter, int piece, int i, int mask) {
        argument(in(store, 0, 11) && in(letter, 0, notes.size() - 1));
        Note note = notes.get(letter);
        argument(in(piece, 0, note.pieces() - 1) && in(i, 0, 7) && piece * 8 + i < note.bytes.length);
        Copy copy = places.get(store).copies.get(letter * 10 + piece);
        if (copy == null) {
            throw new NoSuchElementException();
        }
        copy.bytes[i] ^= mask & 255;
        return copy.bytes[i];
    }

    private Slot slot(int kiosk, int box) {
        argument(in(kiosk, 0, 7) && in(box, 0, 2));
        return slots[kiosk][box];
    }

    int box(int kiosk, int box, int what) {
        Slot slot = slot(kiosk, box);
        argument(in(what, 0, 2));
        return what == 0 ? slot.letters.size() : what == 1 ? slot.bytes() : slot.quota;
    }

    int read(int kiosk, int box, int k, int i) {
        Slot slot = slot(kiosk, box);
        if (!in(k, 0, slot.letters.size() - 1) || !in(i, 0, slot.contents.get(k).length - 1)) {
            throw new IndexOutOfBoundsException();
        }
        return slot.contents.get(k)[i];
    }

    int remove(int kiosk, int box, int k) {
        Slot slot = slot(kiosk, box);
        if (!in(k, 0, slot.letters.size() - 1)) {
            throw new IndexOutOfBoundsException();
        }
        slot.contents.remove(k);
        int letter = slot.letters.remove(k);
        lookAtAll(kiosk);
        return letter;
    }

    int status(int letter) {
        argument(in(letter, 0, notes.size() - 1));
        Note note = notes.get(letter);
        String known = places.get(note.from).letterNews.get(letter);
        return known == null ? note.expired ? 3 : 0 : known.equals("DELIVERED") ? 1 : 2;
    }

    int custodians(int letter) {
        argument(in(letter, 0, notes.size() - 1));
        return places.stream().mapToInt(p ->
            p.copies.keySet().stream().anyMatch(id -> id / 10 == letter) ? 1 << p.number : 0).sum();
    }

    int promise(int letter) {
        argument(in(letter, 0, notes.size() - 1));
        return notes.get(letter).promised;
    }

    int store(int store, int what) {
        argument(in(store, 0, 11) && in(what, 0, 3));
        Place place = places.get(store);
        return what == 0 ? place.room() : what == 1 ? place.timetable : what == 2 ? place.expired : place.refusals;
    }
}
