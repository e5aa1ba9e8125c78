import java.util.NoSuchElementException;

/** Promises 7, 8, 9, 13, 17 and 18: key, post, minute, spoil, status, custodians. */
public final class LettersTest {
    private static final Check check = new Check();

    public static void main(String[] args) {
        keys();
        postArguments();
        textStays();
        sixteenLetters();
        minutes();
        expiry();
        expiryInManyStores();
        expiryBehindDelivery();
        expiryBeforeTheLook();
        spoiling();
        spoiltAtItsGoal();
        spoiltOnTheWay();
        statuses();
        check.end();
    }

    private static void keys() {
        VillageMail mail = new VillageMail();
        for (int i = 0; i < 32; i++) {
            check.due("byte " + i, true, mail.key(i));
        }
        check.due("a 33rd", false, mail.key(99));
        mail.household(0, 0, 200);
        mail.post(0, 0, 0, 0);
        check.due("32 bytes", 32, mail.box(0, 0, 1));
        check.due("the last one", 31, mail.read(0, 0, 0, 31));
        check.due("empty then", true, mail.key(7));
        mail.post(0, 0, 0, 0);
        check.due("one byte", 33, mail.box(0, 0, 1));
        check.due("nothing of the text before", 7, mail.read(0, 0, 1, 0));
    }

    private static void postArguments() {
        VillageMail mail = new VillageMail();
        check.badArgument("empty", () -> mail.post(0, 1, 0, 0));
        mail.key(1);
        check.badArgument("kiosk -1", () -> mail.post(-1, 1, 0, 0));
        check.badArgument("kiosk 8", () -> mail.post(8, 1, 0, 0));
        check.badArgument("goal -1", () -> mail.post(0, -1, 0, 0));
        check.badArgument("goal 8", () -> mail.post(0, 8, 0, 0));
        check.badArgument("box -1", () -> mail.post(0, 1, -1, 0));
        check.badArgument("box 5", () -> mail.post(0, 1, 5, 0));
        check.badArgument("class -1", () -> mail.post(0, 1, 0, -1));
        check.badArgument("class 3", () -> mail.post(0, 1, 0, 3));
        check.due("first", 0, mail.post(0, 1, 4, 2));
        check.badArgument("empty again", () -> mail.post(0, 1, 0, 0));
    }

    private static void textStays() {
        VillageMail mail = new VillageMail();
        for (int i = 0; i < 5; i++) {
            Scenes.post(mail, 32, 0, 1, 0, 0);
        }
        Scenes.post(mail, 17, 0, 1, 0, 0);
        check.due("room for one", 1, mail.store(0, 0));
        Scenes.type(mail, 9);
        check.badState("two pieces", () -> mail.post(0, 1, 0, 0));
        check.badArgument("arguments before room", () -> mail.post(0, 1, 5, 0));
        check.due("room for one still", 1, mail.store(0, 0));
        check.due("from another kiosk", 6, mail.post(1, 2, 0, 0));
        check.due("the text was there", 22, mail.store(1, 0));
        Scenes.type(mail, 8);
        check.due("one piece", 7, mail.post(0, 1, 0, 0));
        check.due("full", 0, mail.store(0, 0));
    }

    private static void sixteenLetters() {
        VillageMail mail = new VillageMail();
        for (int i = 0; i < 16; i++) {
            check.due("letter " + i, i, Scenes.post(mail, 1, i % 8, 7, 0, 0));
        }
        mail.key(1);
        check.badState("a 17th", () -> mail.post(0, 1, 0, 0));
        check.badArgument("a 17th of no class", () -> mail.post(0, 1, 0, 3));
        mail.minute(20000);
        check.badState("also when all are over", () -> mail.post(0, 1, 0, 0));
    }

    private static void minutes() {
        VillageMail mail = new VillageMail();
        check.badArgument("0", () -> mail.minute(0));
        check.badArgument("-1", () -> mail.minute(-1));
        check.badArgument("20001", () -> mail.minute(20001));
        check.due("1", 1, mail.minute(1));
        check.due("20000", 20001, mail.minute(20000));
        check.due("promise at its goal is now", 20001, mail.promise(Scenes.post(mail, 1, 2, 2, 0, 0)));
    }

    private static void expiry() {
        VillageMail mail = new VillageMail();
        mail.minute(5);
        Scenes.post(mail, 20, 2, 3, 0, 1);
        mail.minute(7199);
        check.due("a minute before", 4, mail.custodians(0));
        check.due("under way", 0, mail.status(0));
        check.due("no room yet", 21, mail.store(2, 0));
        mail.minute(1);
        check.due("gone", 0, mail.custodians(0));
        check.due("expired", 3, mail.status(0));
        check.due("counted once for its pieces", 1, mail.store(2, 2));
        check.due("not by its goal", 0, mail.store(3, 2));
        check.due("room", 24, mail.store(2, 0));
        mail.minute(20000);
        check.due("counted once for all time", 1, mail.store(2, 2));
    }

    private static void expiryInManyStores() {
        VillageMail mail = Scenes.line();
        Scenes.post(mail, 24, 0, 1, 0, 1);
        mail.minute(100);
        check.due("one", 1, mail.meet(8, 0, 1));
        mail.minute(100);
        check.due("to its goal", 1, mail.meet(8, 1, 1));
        mail.minute(10000);
        check.due("kiosk 0", 1, mail.store(0, 2));
        check.due("kiosk 1", 1, mail.store(1, 2));
        check.due("bus 8 had none", 0, mail.store(8, 2));
        check.due("expired", 3, mail.status(0));
    }

    private static void expiryBehindDelivery() {
        VillageMail mail = Scenes.line();
        mail.household(1, 0, 32);
        Scenes.post(mail, 24, 0, 1, 0, 1);
        mail.minute(100);
        mail.breakOff(8, 0, 40);
        mail.minute(100);
        check.due("all to its goal", 3, mail.meet(8, 1, 40));
        check.due("delivered", 1, mail.box(1, 0, 0));
        check.due("a copy is left in kiosk 0", 1, mail.custodians(0));
        mail.minute(20000);
        check.due("gone", 0, mail.custodians(0));
        check.due("not counted", 0, mail.store(0, 2));
        check.due("kiosk 0 knows nothing", 0, mail.status(0));
        check.due("it lies in the box", 24, mail.box(1, 0, 1));
        mail.meet(8, 1, 0);
        mail.meet(8, 0, 0);
        check.due("news come late", 1, mail.status(0));
    }

    private static void expiryBeforeTheLook() {
        VillageMail mail = new VillageMail();
        mail.household(1, 0, 20);
        mail.group(1, 0, 0);
        mail.group(1, 0, 1);
        Scenes.post(mail, 9, 1, 1, 3, 1);
        mail.minute(7199);
        mail.group(1, 0, 1);
        mail.minute(1);
        check.due("too late", 3, mail.status(0));
        check.due("not put in", 0, mail.box(1, 0, 0));
        Scenes.post(mail, 9, 1, 1, 4, 1);
        mail.group(1, 1, 0);
        check.due("another is", 1, mail.box(1, 0, 0));
    }

    private static void spoiling() {
        VillageMail mail = new VillageMail();
        mail.key(200);
        Scenes.type(mail, 9);
        mail.post(3, 4, 0, 0);
        check.badArgument("store -1", () -> mail.spoil(-1, 0, 0, 0, 1));
        check.badArgument("store 12", () -> mail.spoil(12, 0, 0, 0, 1));
        check.badArgument("letter -1", () -> mail.spoil(3, -1, 0, 0, 1));
        check.badArgument("letter 1", () -> mail.spoil(3, 1, 0, 0, 1));
        check.badArgument("piece -1", () -> mail.spoil(3, 0, -1, 0, 1));
        check.badArgument("piece 2", () -> mail.spoil(3, 0, 2, 0, 1));
        check.badArgument("byte -1", () -> mail.spoil(3, 0, 0, -1, 1));
        check.badArgument("byte 8", () -> mail.spoil(3, 0, 0, 8, 1));
        check.badArgument("byte 2 of the last piece", () -> mail.spoil(3, 0, 1, 2, 1));
        check.badArgument("argument before copy", () -> mail.spoil(4, 0, 1, 2, 1));
        check.refuses("no copy", NoSuchElementException.class, () -> mail.spoil(4, 0, 1, 1, 1));
        check.due("mask 0", 200, mail.spoil(3, 0, 0, 0, 0));
        check.due("mask 1", 201, mail.spoil(3, 0, 0, 0, 1));
        check.due("lowest 8 bits", 201 ^ 255, mail.spoil(3, 0, 0, 0, -1));
        check.due("not the ninth", 201 ^ 255, mail.spoil(3, 0, 0, 0, 256));
        check.due("the last byte of a piece", 7 ^ 128, mail.spoil(3, 0, 0, 7, 128));
        check.due("its neighbour stays", 6, mail.spoil(3, 0, 0, 6, 0));
        check.due("the last piece", 9 ^ 4, mail.spoil(3, 0, 1, 1, 4));
        mail.minute(7200);
        check.refuses("expired", NoSuchElementException.class, () -> mail.spoil(3, 0, 0, 0, 1));
    }

    private static void spoiltAtItsGoal() {
        VillageMail mail = new VillageMail();
        Scenes.post(mail, 9, 1, 1, 0, 1);
        mail.spoil(1, 0, 1, 0, 16);
        check.due("not looked at", 0, mail.status(0));
        check.due("held", 2, mail.custodians(0));
        mail.minute(1);
        check.due("damaged, though its box is shut", 2, mail.status(0));
        check.due("freed", 0, mail.custodians(0));
        mail.household(1, 0, 200);
        check.due("never put in", 0, mail.box(1, 0, 0));
        mail.minute(20000);
        check.due("no expiry", 0, mail.store(1, 2));
        check.due("damaged for ever", 2, mail.status(0));
    }

    private static void spoiltOnTheWay() {
        VillageMail mail = Scenes.onTheWay(16, 0);
        mail.household(1, 0, 200);
        mail.spoil(8, 0, 1, 3, 9);
        check.due("moved", 2, mail.meet(8, 1, 40));
        check.due("not put in", 0, mail.box(1, 0, 0));
        check.due("freed", 0, mail.custodians(0));
        mail.meet(8, 1, 0);
        mail.meet(8, 0, 0);
        check.due("kiosk 0 learns", 2, mail.status(0));
        VillageMail mended = Scenes.onTheWay(16, 0);
        mended.household(1, 0, 200);
        mended.spoil(8, 0, 1, 3, 9);
        mended.spoil(8, 0, 1, 3, 9);
        mended.meet(8, 1, 40);
        check.due("mended, put in", 1, mended.box(1, 0, 0));
        check.due("its byte", 12, mended.read(1, 0, 0, 11));
    }

    private static void statuses() {
        VillageMail mail = Scenes.onTheWay(16, 2);
        check.badArgument("status 1", () -> mail.status(1));
        check.badArgument("status -1", () -> mail.status(-1));
        check.badArgument("custodians 1", () -> mail.custodians(1));
        check.badArgument("custodians -1", () -> mail.custodians(-1));
        check.due("on the bus", 1 << 8, mail.custodians(0));
        mail.meet(8, 1, 1);
        check.due("on both", 1 << 8 | 1 << 1, mail.custodians(0));
        mail.meet(8, 1, 1);
        check.due("at its goal", 1 << 1, mail.custodians(0));
        mail.household(1, 2, 16);
        check.due("kiosk 0 does not know", 0, mail.status(0));
        mail.meet(8, 0, 40);
        check.due("nor the bus", 0, mail.status(0));
        mail.meet(9, 1, 0);
        mail.meet(9, 0, 0);
        check.due("another bus told it", 1, mail.status(0));
    }
}
