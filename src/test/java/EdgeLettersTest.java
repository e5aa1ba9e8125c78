import java.util.NoSuchElementException;

/** Edges of letters and boxes: pieces, the full and the empty, the last minute before a letter expires. */
public final class EdgeLettersTest {
    private static final Check check = new Check();

    public static void main(String[] args) {
        textsOfEachLength();
        noMoreThanThirtyTwoBytes();
        anEmptyText();
        sixteenLetters();
        justEnoughRoom();
        expiresAtItsMinute();
        expiresInOneLongWait();
        expiredIsCountedByWhoHadSome();
        deliveredDoesNotExpire();
        damagedDoesNotExpire();
        waitingExpiresAtItsGoal();
        lookedAtBehindWhatExpires();
        quotaToTheByte();
        quotaNotReachedByWhatLies();
        quotaOfNothing();
        quotaOfTwoHundred();
        groupWithoutBoxes();
        groupOfAllBoxes();
        groupWithAShutBox();
        groupToTheByte();
        lookedAtWhenTheLastPieceComes();
        lookedAtInEachMinute();
        lookedAtWhenABoxIsOpened();
        lookedAtWhenAQuotaIsGiven();
        lookedAtWhenALetterLeaves();
        lookedAtWhenAGroupGetsABox();
        notLookedAtWhenAGroupLosesABox();
        notLookedAtElsewhere();
        damagedBeforeItWaits();
        putInOnce();
        statusesOfOneLetter();
        check.end();
    }

    private static void textsOfEachLength() {
        for (int length = 1; length <= 32; length++) {
            VillageMail mail = new VillageMail();
            Scenes.post(mail, length, 3, 3, 0, 0);
            int pieces = length <= 8 ? 1 : length <= 16 ? 2 : length <= 24 ? 3 : 4;
            check.due("room beside " + length + " bytes", 24 - pieces, mail.store(3, 0));
            int last = length - 1;
            check.due("its last byte", length, mail.spoil(3, 0, last / 8, last % 8, 0));
            check.badArgument("no byte behind it", () -> mail.spoil(3, 0, last / 8, last % 8 + 1, 0));
            check.badArgument("no piece behind it", () -> mail.spoil(3, 0, last / 8 + 1, 0, 0));
            mail.household(3, 0, length);
            check.due("bytes in the box", length, mail.box(3, 0, 1));
            check.due("last byte read", length, mail.read(3, 0, 0, last));
            check.refuses("none behind it", IndexOutOfBoundsException.class, () -> mail.read(3, 0, 0, last + 1));
        }
    }

    private static void noMoreThanThirtyTwoBytes() {
        VillageMail mail = new VillageMail();
        mail.household(3, 0, 200);
        for (int i = 0; i < 32; i++) {
            check.due("byte " + i, true, mail.key(100 + i));
        }
        for (int i = 0; i < 3; i++) {
            check.due("refused", false, mail.key(7));
        }
        mail.post(3, 3, 0, 0);
        check.due("32", 32, mail.box(3, 0, 1));
        for (int i = 0; i < 32; i++) {
            check.due("byte " + i, 100 + i, mail.read(3, 0, 0, i));
        }
    }

    private static void anEmptyText() {
        VillageMail mail = new VillageMail();
        check.badArgument("none yet", () -> mail.post(0, 1, 0, 0));
        mail.key(0);
        check.due("a byte 0 is a text", 0, mail.post(0, 1, 0, 0));
        check.badArgument("none any more", () -> mail.post(0, 1, 0, 0));
        check.badArgument("nothing was posted", () -> mail.status(1));
    }

    private static void sixteenLetters() {
        VillageMail mail = new VillageMail();
        mail.household(2, 0, 200);
        for (int i = 0; i < 16; i++) {
            check.due("number", i, Scenes.post(mail, 2, 2, 2, 0, 0));
            check.due("delivered", 1, mail.status(i));
        }
        mail.key(5);
        check.badState("a 17th, though all are delivered", () -> mail.post(2, 2, 0, 0));
        check.due("all lie there", 16, mail.box(2, 0, 0));
        for (int i = 0; i < 16; i++) {
            check.due("removed", i, mail.remove(2, 0, 0));
        }
        check.badState("though all are removed", () -> mail.post(2, 2, 0, 0));
        check.badArgument("no status of a 17th", () -> mail.status(16));
    }

    private static void justEnoughRoom() {
        VillageMail mail = new VillageMail();
        for (int i = 0; i < 5; i++) {
            Scenes.post(mail, 32, 7, 1, 0, 0);
        }
        Scenes.post(mail, 8, 7, 1, 0, 0);
        check.due("room for three", 3, mail.store(7, 0));
        Scenes.type(mail, 25);
        check.badState("four", () -> mail.post(7, 1, 0, 0));
        check.due("the text stays: posted elsewhere", 6, mail.post(6, 1, 0, 0));
        check.due("with all its pieces", 20, mail.store(6, 0));
        Scenes.type(mail, 24);
        check.due("three", 7, mail.post(7, 1, 0, 0));
        check.due("full", 0, mail.store(7, 0));
        mail.key(1);
        check.badState("one", () -> mail.post(7, 1, 0, 0));
    }

    private static void expiresAtItsMinute() {
        VillageMail mail = new VillageMail();
        Scenes.post(mail, 1, 4, 5, 0, 0);
        mail.minute(1);
        Scenes.post(mail, 1, 4, 5, 0, 0);
        mail.minute(7198);
        check.due("minute 7199 of the first", 1 << 4, mail.custodians(0));
        check.due("under way", 0, mail.status(0));
        mail.minute(1);
        check.due("minute 7200 of the first", 0, mail.custodians(0));
        check.due("expired", 3, mail.status(0));
        check.due("minute 7199 of the second", 1 << 4, mail.custodians(1));
        check.due("under way still", 0, mail.status(1));
        check.due("counted", 1, mail.store(4, 2));
        mail.minute(1);
        check.due("minute 7200 of the second", 0, mail.custodians(1));
        check.due("expired, too", 3, mail.status(1));
        check.due("both counted", 2, mail.store(4, 2));
        check.due("all room", 24, mail.store(4, 0));
    }

    private static void expiresInOneLongWait() {
        int[] waits = {7198, 7199, 7200, 7201, 20000};
        for (int wait : waits) {
            VillageMail mail = new VillageMail();
            mail.minute(10079);
            Scenes.post(mail, 9, 4, 5, 0, 0);
            mail.minute(wait);
            check.due("expired behind " + wait, wait < 7200 ? 0 : 3, mail.status(0));
            check.due("counted behind " + wait, wait < 7200 ? 0 : 1, mail.store(4, 2));
            check.due("room behind " + wait, wait < 7200 ? 22 : 24, mail.store(4, 0));
        }
    }

    private static void expiredIsCountedByWhoHadSome() {
        VillageMail mail = Scenes.line();
        Scenes.post(mail, 32, 0, 1, 0, 1);
        mail.minute(100);
        mail.meet(8, 0, 3);
        mail.minute(100);
        mail.meet(8, 1, 1);
        check.due("three have some", 1 | 1 << 1 | 1 << 8, mail.custodians(0));
        mail.minute(7000);
        for (int i = 0; i < 12; i++) {
            check.due("counted by " + i, i == 0 || i == 1 || i == 8 ? 1 : 0, mail.store(i, 2));
            check.due("room of " + i, i < 8 ? 24 : 10, mail.store(i, 0));
        }
        check.due("expired", 3, mail.status(0));
    }

    private static void deliveredDoesNotExpire() {
        VillageMail mail = Scenes.onTheWay(8, 0);
        mail.household(1, 0, 8);
        check.due("delivered, the bus does not learn it", 1, mail.breakOff(8, 1, 40));
        mail.minute(6999);
        check.due("the bus has it", 1 << 8, mail.custodians(0));
        mail.minute(1);
        check.due("gone", 0, mail.custodians(0));
        check.due("not counted by the bus", 0, mail.store(8, 2));
        check.due("kiosk 0 knows nothing", 0, mail.status(0));
        check.due("it lies there", 1, mail.box(1, 0, 0));
    }

    private static void damagedDoesNotExpire() {
        VillageMail mail = Scenes.onTheWay(8, 0);
        mail.spoil(8, 0, 0, 0, 4);
        mail.breakOff(8, 1, 40);
        check.due("damaged: only the bus has it", 1 << 8, mail.custodians(0));
        mail.minute(7000);
        check.due("gone", 0, mail.custodians(0));
        check.due("not counted", 0, mail.store(8, 2));
        check.due("not expired", 0, mail.status(0));
        mail.meet(9, 1, 0);
        mail.meet(9, 0, 0);
        check.due("damaged, heard of later", 2, mail.status(0));
    }

    private static void waitingExpiresAtItsGoal() {
        VillageMail mail = new VillageMail();
        Scenes.post(mail, 8, 1, 1, 0, 0);
        mail.minute(7200);
        check.due("expired", 3, mail.status(0));
        check.due("counted", 1, mail.store(1, 2));
        mail.household(1, 0, 200);
        check.due("too late", 0, mail.box(1, 0, 0));
    }

    /** A group's loss of its shut box is no occasion for a look: the next minute's is the first. */
    private static void lookedAtBehindWhatExpires() {
        for (int minute = 7197; minute < 7200; minute++) {
            VillageMail mail = waitingForAShutBox();
            mail.minute(minute);
            mail.group(1, 0, 1);
            check.due("not yet", 0, mail.box(1, 0, 0));
            mail.minute(1);
            check.due("put in at " + (minute + 1), minute < 7199 ? 1 : 0, mail.box(1, 0, 0));
            check.due("status at " + (minute + 1), minute < 7199 ? 1 : 3, mail.status(0));
        }
    }

    private static VillageMail waitingForAShutBox() {
        VillageMail mail = new VillageMail();
        mail.household(1, 0, 200);
        mail.group(1, 0, 0);
        mail.group(1, 0, 1);
        Scenes.post(mail, 9, 1, 1, 3, 0);
        return mail;
    }

    private static void quotaToTheByte() {
        for (int quota = 8; quota < 11; quota++) {
            VillageMail mail = new VillageMail();
            mail.household(1, 2, quota);
            Scenes.post(mail, 9, 1, 1, 2, 0);
            check.due("9 bytes by " + quota, quota < 9 ? 0 : 1, mail.box(1, 2, 0));
            check.due("status", quota < 9 ? 0 : 1, mail.status(0));
            check.due("held", quota < 9 ? 2 : 0, mail.custodians(0));
        }
    }

    private static void quotaNotReachedByWhatLies() {
        for (int quota = 40; quota < 43; quota++) {
            VillageMail mail = new VillageMail();
            mail.household(1, 2, quota);
            Scenes.post(mail, 32, 1, 1, 2, 0);
            Scenes.post(mail, 9, 1, 1, 2, 0);
            check.due("32 and 9 bytes by " + quota, quota < 41 ? 1 : 2, mail.box(1, 2, 0));
            check.due("bytes", quota < 41 ? 32 : 41, mail.box(1, 2, 1));
        }
    }

    private static void quotaOfNothing() {
        VillageMail mail = new VillageMail();
        check.due("not open", -1, mail.box(1, 2, 2));
        mail.household(1, 2, 0);
        check.due("open", 0, mail.box(1, 2, 2));
        Scenes.post(mail, 1, 1, 1, 2, 0);
        check.due("has no byte left", 0, mail.box(1, 2, 0));
        mail.household(1, 2, 1);
        check.due("has one", 1, mail.box(1, 2, 0));
        mail.household(1, 2, 0);
        check.due("what lies stays", 1, mail.box(1, 2, 0));
    }

    private static void quotaOfTwoHundred() {
        VillageMail mail = new VillageMail();
        mail.household(1, 2, 200);
        for (int i = 0; i < 6; i++) {
            Scenes.post(mail, 32, 1, 1, 2, 0);
        }
        Scenes.post(mail, 9, 1, 1, 2, 0);
        check.due("8 left: 9 wait", 192, mail.box(1, 2, 1));
        Scenes.post(mail, 8, 1, 1, 2, 0);
        check.due("8 fit", 200, mail.box(1, 2, 1));
        Scenes.post(mail, 1, 1, 1, 2, 0);
        check.due("full", 7, mail.box(1, 2, 0));
        check.badArgument("no quota above", () -> mail.household(1, 2, 201));
        check.due("it stays", 200, mail.box(1, 2, 2));
        check.due("the second goes", 1, mail.remove(1, 2, 1));
        check.due("9 and 1 come", 178, mail.box(1, 2, 1));
        check.due("behind the others", 8, mail.remove(1, 2, 7));
        check.due("by their numbers", 6, mail.remove(1, 2, 6));
    }

    private static void groupWithoutBoxes() {
        VillageMail mail = new VillageMail();
        for (int box = 0; box < 3; box++) {
            mail.household(1, box, 200);
        }
        Scenes.post(mail, 9, 1, 1, 3, 0);
        Scenes.post(mail, 9, 1, 1, 4, 0);
        mail.minute(1);
        check.due("both wait", 20, mail.store(1, 0));
        mail.group(1, 1, 2);
        check.due("the one of group 1 is put in", 1, mail.box(1, 2, 0));
        check.due("the other waits", 0, mail.box(1, 0, 0) + mail.box(1, 1, 0));
        mail.group(1, 1, 2);
        Scenes.post(mail, 9, 1, 1, 4, 0);
        check.due("a group that has lost its last box", 2, mail.custodians(2));
    }

    private static void groupOfAllBoxes() {
        VillageMail mail = new VillageMail();
        for (int box = 0; box < 3; box++) {
            mail.household(1, box, 9 + box);
            check.due("in", true, mail.group(1, 1, box));
        }
        Scenes.post(mail, 9, 1, 1, 4, 0);
        for (int box = 0; box < 3; box++) {
            check.due("put into " + box, 9, mail.box(1, box, 1));
            check.due("its number", 0, mail.remove(1, box, 0));
        }
    }

    private static void groupWithAShutBox() {
        for (int shut = 0; shut < 3; shut++) {
            VillageMail mail = new VillageMail();
            for (int box = 0; box < 3; box++) {
                mail.group(1, 0, box);
                if (box != shut) {
                    mail.household(1, box, 200);
                }
            }
            Scenes.post(mail, 9, 1, 1, 3, 0);
            check.due("waits for box " + shut, 2, mail.custodians(0));
            check.due("put into none", 0, mail.box(1, 0, 0) + mail.box(1, 1, 0) + mail.box(1, 2, 0));
            mail.household(1, shut, 9);
            check.due("put into all", 3, mail.box(1, 0, 0) + mail.box(1, 1, 0) + mail.box(1, 2, 0));
        }
    }

    private static void groupToTheByte() {
        for (int small = 0; small < 3; small++) {
            VillageMail mail = new VillageMail();
            for (int box = 0; box < 3; box++) {
                mail.group(1, 0, box);
                mail.household(1, box, box == small ? 8 : 9);
            }
            Scenes.post(mail, 9, 1, 1, 3, 0);
            check.due("a byte too few in box " + small, 2, mail.custodians(0));
            mail.household(1, small, 9);
            check.due("enough", 0, mail.custodians(0));
        }
    }

    private static void lookedAtWhenTheLastPieceComes() {
        VillageMail mail = Scenes.onTheWay(17, 0);
        mail.household(1, 0, 17);
        mail.meet(8, 1, 2);
        mail.minute(1);
        mail.household(1, 0, 18);
        check.due("two of three", 0, mail.box(1, 0, 0));
        check.due("held by both", 1 << 8 | 1 << 1, mail.custodians(0));
        mail.meet(8, 1, 1);
        check.due("three of three", 1, mail.box(1, 0, 0));
        check.due("held by none", 0, mail.custodians(0));
    }

    private static void lookedAtInEachMinute() {
        VillageMail mail = waitingForAShutBox();
        mail.group(1, 0, 1);
        check.due("waits", 0, mail.box(1, 0, 0));
        mail.minute(1);
        check.due("a minute", 1, mail.box(1, 0, 0));
        VillageMail other = waitingForAShutBox();
        other.group(1, 0, 1);
        other.minute(20000);
        check.due("the first of many", 1, other.box(1, 0, 0));
        check.due("not the last", 1, other.status(0));
    }

    private static void lookedAtWhenABoxIsOpened() {
        VillageMail mail = waitingForAShutBox();
        mail.household(1, 2, 200);
        check.due("another box", 0, mail.box(1, 0, 0));
        mail.household(1, 1, 9);
        check.due("the box", 1, mail.box(1, 1, 0));
    }

    private static void lookedAtWhenAQuotaIsGiven() {
        VillageMail mail = waitingForAShutBox();
        mail.household(1, 1, 8);
        check.due("too few", 0, mail.box(1, 0, 0));
        mail.household(1, 1, 9);
        check.due("enough", 1, mail.box(1, 1, 0));
    }

    private static void lookedAtWhenALetterLeaves() {
        VillageMail mail = new VillageMail();
        mail.household(1, 0, 20);
        Scenes.post(mail, 11, 1, 1, 0, 0);
        Scenes.post(mail, 10, 1, 1, 0, 0);
        Scenes.post(mail, 20, 1, 1, 0, 0);
        check.due("one lies there", 11, mail.box(1, 0, 1));
        check.due("it leaves", 0, mail.remove(1, 0, 0));
        check.due("the next one by number", 10, mail.box(1, 0, 1));
        check.due("it leaves, too", 1, mail.remove(1, 0, 0));
        check.due("the last", 20, mail.box(1, 0, 1));
    }

    private static void lookedAtWhenAGroupGetsABox() {
        VillageMail mail = new VillageMail();
        mail.household(1, 2, 9);
        Scenes.post(mail, 9, 1, 1, 3, 0);
        mail.group(1, 1, 2);
        check.due("another group", 0, mail.box(1, 2, 0));
        mail.group(1, 0, 2);
        check.due("its group", 1, mail.box(1, 2, 0));
    }

    private static void notLookedAtWhenAGroupLosesABox() {
        VillageMail mail = waitingForAShutBox();
        check.due("out", false, mail.group(1, 0, 1));
        check.due("waits", 2, mail.custodians(0));
        check.due("another one gets one", true, mail.group(1, 1, 2));
        check.due("that is an occasion", 0, mail.custodians(0));
    }

    private static void notLookedAtElsewhere() {
        VillageMail mail = waitingForAShutBox();
        mail.group(1, 0, 1);
        mail.household(0, 0, 200);
        mail.group(2, 0, 0);
        Scenes.post(mail, 1, 0, 0, 0, 0);
        mail.remove(0, 0, 0);
        check.due("another kiosk's boxes are no occasion", 2, mail.custodians(0));
    }

    private static void damagedBeforeItWaits() {
        int[] goals = {0, 3};
        for (int box : goals) {
            VillageMail mail = new VillageMail();
            Scenes.post(mail, 9, 1, 1, box, 0);
            mail.spoil(1, 0, 1, 0, 128);
            mail.minute(1);
            check.due("damaged, with no box for it", 2, mail.status(0));
            check.refuses("freed", NoSuchElementException.class, () -> mail.spoil(1, 0, 1, 0, 128));
            check.due("room", 24, mail.store(1, 0));
        }
    }

    private static void putInOnce() {
        VillageMail mail = Scenes.onTheWay(8, 0);
        mail.household(1, 0, 200);
        mail.breakOff(8, 1, 40);
        for (int i = 0; i < 3; i++) {
            check.due("it comes no more", 0, mail.meet(8, 1, 40));
            mail.minute(1);
            mail.household(1, 0, 200 - i);
        }
        check.due("once", 1, mail.box(1, 0, 0));
        mail.remove(1, 0, 0);
        mail.minute(1);
        check.due("and not again", 0, mail.box(1, 0, 0));
    }

    private static void statusesOfOneLetter() {
        VillageMail mail = Scenes.onTheWay(8, 0);
        check.due("under way", 0, mail.status(0));
        mail.meet(8, 1, 40);
        mail.household(1, 0, 8);
        check.due("delivered, not known", 0, mail.status(0));
        mail.minute(7000);
        check.due("its minute passes", 0, mail.status(0));
        mail.meet(8, 1, 0);
        mail.meet(8, 0, 0);
        check.due("known behind that", 1, mail.status(0));
        check.badArgument("no letter 1", () -> mail.status(1));
    }
}
