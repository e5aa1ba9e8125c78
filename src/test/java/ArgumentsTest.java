import java.util.ArrayList;
import java.util.Arrays;
import java.util.List;
import java.util.NoSuchElementException;

/**
 * The arguments of all calls: the least and the greatest that are allowed, those just outside, which of several
 * exceptions is thrown, and that a call that throws changes nothing.
 */
public final class ArgumentsTest {
    private static final Check check = new Check();

    interface Call {
        void make(VillageMail mail, int[] a);
    }

    /** A call with arguments that are good, and between which ends each of them may be. */
    private static final class Row {
        final String name;
        final int[] good;
        final int[][] ends;
        final Call call;

        Row(String name, int[] good, int[][] ends, Call call) {
            this.name = name;
            this.good = good;
            this.ends = ends;
            this.call = call;
        }

        int[] with(int at, int value) {
            int[] a = good.clone();
            a[at] = value;
            return a;
        }

        String told(int[] a) {
            return name + Arrays.toString(a);
        }
    }

    private static final int[] KIOSK = {0, 7};
    private static final int[] BUS = {8, 11};
    private static final int[] STORE = {0, 11};
    private static final int[] BOX = {0, 2};
    private static final int[] LETTER = {0, 3};

    private static final Row[] ROWS = {
        new Row("stop", new int[] {9, 3, 5}, new int[][] {BUS, KIOSK, {0, 10079}}, (m, a) -> m.stop(a[0], a[1], a[2])),
        new Row("household", new int[] {3, 1, 9}, new int[][] {KIOSK, BOX, {0, 200}},
            (m, a) -> m.household(a[0], a[1], a[2])),
        new Row("group", new int[] {3, 1, 1}, new int[][] {KIOSK, {0, 1}, BOX}, (m, a) -> m.group(a[0], a[1], a[2])),
        new Row("post", new int[] {3, 4, 1, 1}, new int[][] {KIOSK, KIOSK, {0, 4}, {0, 2}},
            (m, a) -> m.post(a[0], a[1], a[2], a[3])),
        new Row("minute", new int[] {5}, new int[][] {{1, 20000}}, (m, a) -> m.minute(a[0])),
        new Row("meet", new int[] {9, 3, 5}, new int[][] {BUS, KIOSK, {0, 40}}, (m, a) -> m.meet(a[0], a[1], a[2])),
        new Row("breakOff", new int[] {9, 3, 5}, new int[][] {BUS, KIOSK, {0, 40}},
            (m, a) -> m.breakOff(a[0], a[1], a[2])),
        new Row("reboot", new int[] {5}, new int[][] {STORE}, (m, a) -> m.reboot(a[0])),
        new Row("spoil, a whole piece", new int[] {8, 0, 0, 0}, new int[][] {STORE, LETTER, {0, 1}, {0, 7}},
            (m, a) -> m.spoil(a[0], a[1], a[2], a[3], 1)),
        new Row("spoil, a piece of 3 bytes", new int[] {8, 0, 1, 0}, new int[][] {STORE, {0, 2}, {0, 1}, {0, 2}},
            (m, a) -> m.spoil(a[0], a[1], a[2], a[3], 1)),
        new Row("box", new int[] {3, 1, 1}, new int[][] {KIOSK, BOX, {0, 2}}, (m, a) -> m.box(a[0], a[1], a[2])),
        new Row("read", new int[] {1, 0}, new int[][] {KIOSK, BOX}, (m, a) -> m.read(a[0], a[1], 0, 0)),
        new Row("read of no letter", new int[] {1, 0}, new int[][] {KIOSK, BOX}, (m, a) -> m.read(a[0], a[1], -1, -1)),
        new Row("remove", new int[] {1, 0}, new int[][] {KIOSK, BOX}, (m, a) -> m.remove(a[0], a[1], 0)),
        new Row("remove of no letter", new int[] {1, 0}, new int[][] {KIOSK, BOX}, (m, a) -> m.remove(a[0], a[1], 99)),
        new Row("status", new int[] {1}, new int[][] {LETTER}, (m, a) -> m.status(a[0])),
        new Row("custodians", new int[] {1}, new int[][] {LETTER}, (m, a) -> m.custodians(a[0])),
        new Row("promise", new int[] {1}, new int[][] {LETTER}, (m, a) -> m.promise(a[0])),
        new Row("best", new int[] {3, 4, 5}, new int[][] {KIOSK, KIOSK, {0, 2000000000}},
            (m, a) -> m.best(a[0], a[1], a[2])),
        new Row("store", new int[] {3, 1}, new int[][] {STORE, {0, 3}}, (m, a) -> m.store(a[0], a[1])),
    };

    public static void main(String[] args) {
        theEndsAreAllowed();
        justOutsideIsRefused();
        severalWrongArguments();
        stopNamesArgumentsFirst();
        postNamesArgumentsFirst();
        spoilNamesArgumentsFirst();
        readAndRemoveNameArgumentsFirst();
        indexesOfLettersAndBytes();
        cancelAndKeyTakeAnyNumber();
        emptyObject();
        fullTimetableChangesNothing();
        lastPublishedChangesNothing();
        fullKioskChangesNothing();
        sixteenLettersChangeNothing();
        check.end();
    }

    /** Four letters: 0 (11 bytes) on bus 8, 1 in a box of kiosk 1, 2 (16 bytes) and 3 in kiosk 0; a text in hand. */
    private static VillageMail scene() {
        VillageMail mail = Scenes.onTheWay(11, 0);
        mail.household(1, 0, 40);
        Scenes.post(mail, 5, 1, 1, 0, 2);
        Scenes.post(mail, 16, 0, 2, 4, 0);
        Scenes.post(mail, 3, 0, 5, 1, 1);
        mail.breakOff(9, 1, 3);
        mail.stop(9, 4, 700);
        mail.group(2, 1, 0);
        Scenes.type(mail, 10);
        return mail;
    }

    private static void theEndsAreAllowed() {
        for (Row row : ROWS) {
            for (int at = 0; at < row.good.length; at++) {
                for (int end : row.ends[at]) {
                    isNoBadArgument(row, row.with(at, end));
                }
            }
        }
    }

    private static void isNoBadArgument(Row row, int[] a) {
        boolean bad = false;
        try {
            row.call.make(scene(), a);
        } catch (IllegalArgumentException e) {
            bad = true;
        } catch (NoSuchElementException | IndexOutOfBoundsException | IllegalStateException e) {
            bad = false;
        }
        check.due(row.told(a) + " has bad arguments", false, bad);
    }

    private static void justOutsideIsRefused() {
        VillageMail mail = scene();
        for (Row row : ROWS) {
            for (int[] a : outside(row)) {
                check.badArgument(row.told(a), () -> row.call.make(mail, a));
                check.due(row.told(a) + " changes nothing", true, Portrait.of(mail).equals(Portrait.of(scene())));
            }
        }
        isAsIfNothingHad("refused arguments", mail, scene());
    }

    private static List<int[]> outside(Row row) {
        List<int[]> found = new ArrayList<>();
        for (int at = 0; at < row.good.length; at++) {
            int low = row.ends[at][0];
            int high = row.ends[at][1];
            for (int value : new int[] {low - 1, high + 1, Integer.MIN_VALUE, Integer.MAX_VALUE}) {
                found.add(row.with(at, value));
            }
        }
        return found;
    }

    private static void severalWrongArguments() {
        for (Row row : ROWS) {
            int[] below = new int[row.good.length];
            int[] above = new int[row.good.length];
            for (int at = 0; at < row.good.length; at++) {
                below[at] = row.ends[at][0] - 1;
                above[at] = row.ends[at][1] + 1;
            }
            check.badArgument(row.told(below), () -> row.call.make(scene(), below));
            check.badArgument(row.told(above), () -> row.call.make(scene(), above));
        }
    }

    private static void isAsIfNothingHad(String what, VillageMail disturbed, VillageMail other) {
        check.due(what + " show", true, Portrait.of(disturbed).equals(Portrait.of(other)));
        check.due(what + " show later", true,
            Portrait.ofWhatFollows(disturbed).equals(Portrait.ofWhatFollows(other)));
    }

    private static void stopNamesArgumentsFirst() {
        VillageMail taken = Scenes.line();
        check.badState("a taken minute", () -> taken.stop(8, 5, 100));
        check.badArgument("no kiosk at a taken minute", () -> taken.stop(8, 8, 100));
        VillageMail full = fullTimetable();
        check.badState("a 25th", () -> full.stop(8, 0, 9000));
        check.badArgument("a 25th of no bus", () -> full.stop(12, 0, 9000));
        check.badArgument("a 25th at no kiosk", () -> full.stop(8, -1, 9000));
        check.badArgument("a 25th at no minute", () -> full.stop(8, 0, 10080));
        check.badState("a 25th at a taken minute", () -> full.stop(8, 0, 0));
    }

    private static void postNamesArgumentsFirst() {
        VillageMail full = fullKiosk();
        check.badArgument("nothing to post in a full kiosk", () -> full.post(0, 1, 0, 0));
        full.key(1);
        check.badState("a full kiosk", () -> full.post(0, 1, 0, 0));
        check.badArgument("no goal", () -> full.post(0, 8, 0, 0));
        check.badArgument("no box", () -> full.post(0, 1, 5, 0));
        check.badArgument("no class", () -> full.post(0, 1, 0, 3));
        VillageMail over = sixteenLetters();
        check.badArgument("nothing to post behind 16", () -> over.post(5, 1, 0, 0));
        over.key(1);
        check.badState("a 17th", () -> over.post(5, 1, 0, 0));
        check.badArgument("a 17th of no kiosk", () -> over.post(8, 1, 0, 0));
        check.badArgument("a 17th to no goal", () -> over.post(5, -1, 0, 0));
        check.badArgument("a 17th to no box", () -> over.post(5, 1, -1, 0));
        check.badArgument("a 17th of no class", () -> over.post(5, 1, 0, -1));
    }

    private static void spoilNamesArgumentsFirst() {
        VillageMail mail = scene();
        check.refuses("no copy in kiosk 5", NoSuchElementException.class, () -> mail.spoil(5, 0, 1, 2, 1));
        check.refuses("no copy in bus 11", NoSuchElementException.class, () -> mail.spoil(11, 0, 0, 7, 1));
        check.refuses("none of a delivered letter", NoSuchElementException.class, () -> mail.spoil(1, 1, 0, 0, 1));
        check.badArgument("no byte 3 in the last piece, no copy", () -> mail.spoil(5, 0, 1, 3, 1));
        check.badArgument("no byte 8, no copy", () -> mail.spoil(5, 0, 0, 8, 1));
        check.badArgument("no piece 2, no copy", () -> mail.spoil(5, 0, 2, 0, 1));
        check.badArgument("no letter 4, no copy", () -> mail.spoil(5, 4, 0, 0, 1));
        isAsIfNothingHad("refused spoilings", mail, scene());
    }

    private static void readAndRemoveNameArgumentsFirst() {
        VillageMail mail = scene();
        int[][] noBoxes = {{-1, 0}, {8, 0}, {1, -1}, {1, 3}};
        for (int[] a : noBoxes) {
            check.badArgument("read before its letter", () -> mail.read(a[0], a[1], 5, 0));
            check.badArgument("read before its byte", () -> mail.read(a[0], a[1], 0, 32));
            check.badArgument("remove before its letter", () -> mail.remove(a[0], a[1], -1));
        }
    }

    private static void indexesOfLettersAndBytes() {
        VillageMail mail = scene();
        check.due("first byte", 1, mail.read(1, 0, 0, 0));
        check.due("last byte", 5, mail.read(1, 0, 0, 4));
        int[] noByte = {-1, 5, Integer.MIN_VALUE, Integer.MAX_VALUE};
        for (int i : noByte) {
            outOfBounds("byte " + i, () -> mail.read(1, 0, 0, i));
        }
        int[] noLetter = {-1, 1, Integer.MIN_VALUE, Integer.MAX_VALUE};
        for (int k : noLetter) {
            outOfBounds("read letter " + k, () -> mail.read(1, 0, k, 0));
            outOfBounds("remove letter " + k, () -> mail.remove(1, 0, k));
        }
        outOfBounds("read in an empty box", () -> mail.read(1, 1, 0, 0));
        outOfBounds("remove from an empty box", () -> mail.remove(1, 1, 0));
        isAsIfNothingHad("refused indexes", mail, scene());
        VillageMail other = scene();
        check.due("the only one", 1, other.remove(1, 0, 0));
        outOfBounds("remove it again", () -> other.remove(1, 0, 0));
    }

    private static void outOfBounds(String what, Check.Deed deed) {
        check.refuses(what, IndexOutOfBoundsException.class, deed);
    }

    private static void cancelAndKeyTakeAnyNumber() {
        VillageMail mail = scene();
        int[] odd = {Integer.MIN_VALUE, -1, 7, 12, 10080, Integer.MAX_VALUE};
        for (int number : odd) {
            check.due("no bus " + number, false, mail.cancel(number, 100));
            check.due("no minute " + number, false, mail.cancel(8, number));
        }
        isAsIfNothingHad("cancelled nothings", mail, scene());
        VillageMail typed = new VillageMail();
        typed.household(0, 0, 200);
        int[] bytes = {0, 255, 256, -1, -256, 127, 128, Integer.MIN_VALUE, Integer.MAX_VALUE};
        for (int b : bytes) {
            check.due("key " + b, true, typed.key(b));
        }
        typed.post(0, 0, 0, 0);
        for (int i = 0; i < bytes.length; i++) {
            check.due("the byte of " + bytes[i], Math.floorMod(bytes[i], 256), typed.read(0, 0, 0, i));
        }
    }

    private static void emptyObject() {
        VillageMail mail = new VillageMail();
        for (int letter = -1; letter < 2; letter++) {
            int number = letter;
            check.badArgument("status", () -> mail.status(number));
            check.badArgument("custodians", () -> mail.custodians(number));
            check.badArgument("promise", () -> mail.promise(number));
            check.badArgument("spoil", () -> mail.spoil(0, number, 0, 0, 1));
        }
        check.badArgument("post without a text", () -> mail.post(0, 0, 0, 0));
        outOfBounds("read", () -> mail.read(0, 0, 0, 0));
        outOfBounds("remove", () -> mail.remove(0, 0, 0));
        check.due("cancel", false, mail.cancel(8, 0));
        check.due("a meeting of the empty", 0, mail.meet(8, 0, 40));
        check.due("one that breaks off", 0, mail.breakOff(8, 0, 40));
        mail.reboot(0);
        mail.reboot(11);
        isAsIfNothingHad("calls on the empty", mail, new VillageMail());
    }

    private static VillageMail fullTimetable() {
        VillageMail mail = new VillageMail();
        for (int i = 0; i < 24; i++) {
            mail.stop(8 + i % 4, i % 8, 400 * i);
        }
        return mail;
    }

    private static void fullTimetableChangesNothing() {
        VillageMail mail = fullTimetable();
        check.badState("a 25th", () -> mail.stop(8, 7, 9999));
        check.badState("one at a taken minute", () -> mail.stop(8, 7, 0));
        isAsIfNothingHad("refused stops", mail, fullTimetable());
        VillageMail taken = Scenes.line();
        check.badState("another kiosk at a taken minute", () -> taken.stop(8, 7, 100));
        isAsIfNothingHad("refused stops", taken, Scenes.line());
    }

    private static VillageMail sixPublished() {
        VillageMail mail = new VillageMail();
        for (int i = 0; i < 6; i++) {
            mail.stop(8, i, 100 * i);
            mail.publish();
        }
        mail.meet(9, 0, 0);
        mail.reboot(0);
        mail.stop(8, 7, 800);
        return mail;
    }

    private static void lastPublishedChangesNothing() {
        VillageMail mail = sixPublished();
        check.badState("a seventh", mail::publish);
        check.due("kiosk 0 does not hold it", 0, mail.store(0, 1));
        check.due("its stop is in none", -1, mail.best(0, 7, 0));
        isAsIfNothingHad("refused publishing", mail, sixPublished());
    }

    private static VillageMail fullKiosk() {
        VillageMail mail = Scenes.line();
        for (int i = 0; i < 6; i++) {
            Scenes.post(mail, 32, 0, 1, 0, 1);
        }
        return mail;
    }

    private static void fullKioskChangesNothing() {
        VillageMail mail = fullKiosk();
        VillageMail other = fullKiosk();
        Scenes.type(mail, 12);
        Scenes.type(other, 12);
        check.badState("no room", () -> mail.post(0, 3, 0, 2));
        check.badArgument("no letter 6", () -> mail.status(6));
        isAsIfNothingHad("a refused letter", mail, other);
    }

    private static VillageMail sixteenLetters() {
        VillageMail mail = Scenes.line();
        for (int i = 0; i < 16; i++) {
            Scenes.post(mail, 7, i % 4, 7, 2, 1);
        }
        return mail;
    }

    private static void sixteenLettersChangeNothing() {
        VillageMail mail = sixteenLetters();
        VillageMail other = sixteenLetters();
        Scenes.type(mail, 32);
        Scenes.type(other, 32);
        check.due("a 33rd byte", false, mail.key(255));
        check.badState("a 17th", () -> mail.post(5, 3, 0, 2));
        check.badArgument("no letter 16", () -> mail.status(16));
        check.due("room", 24, mail.store(5, 0));
        isAsIfNothingHad("a refused letter", mail, other);
    }
}
