/** Promises 5, 6, 14, 15 and 16: household, group, box, read, remove. */
public final class BoxesTest {
    private static final Check check = new Check();

    public static void main(String[] args) {
        wrongArguments();
        emptyBoxes();
        quotas();
        quotaTakenBack();
        waitingInOrder();
        groupsOfBoxes();
        emptyGroup();
        groupThatLosesABox();
        readingAndRemoving();
        equalSums();
        sumsTurnRound();
        check.end();
    }

    private static void wrongArguments() {
        VillageMail mail = new VillageMail();
        int[] noKiosk = {-1, 8, 11};
        int[] noBox = {-1, 3, 4};
        for (int bad : noKiosk) {
            check.badArgument("household kiosk " + bad, () -> mail.household(bad, 0, 0));
            check.badArgument("group kiosk " + bad, () -> mail.group(bad, 0, 0));
            check.badArgument("box kiosk " + bad, () -> mail.box(bad, 0, 0));
            check.badArgument("read kiosk " + bad, () -> mail.read(bad, 0, 0, 0));
            check.badArgument("remove kiosk " + bad, () -> mail.remove(bad, 0, 0));
        }
        for (int bad : noBox) {
            check.badArgument("household box " + bad, () -> mail.household(0, bad, 0));
            check.badArgument("group box " + bad, () -> mail.group(0, 0, bad));
            check.badArgument("box box " + bad, () -> mail.box(0, bad, 0));
            check.badArgument("read box " + bad, () -> mail.read(0, bad, 0, 0));
            check.badArgument("remove box " + bad, () -> mail.remove(0, bad, 0));
        }
        check.badArgument("quota -1", () -> mail.household(0, 0, -1));
        check.badArgument("quota 201", () -> mail.household(0, 0, 201));
        check.badArgument("group -1", () -> mail.group(0, -1, 0));
        check.badArgument("group 2", () -> mail.group(0, 2, 0));
        check.badArgument("what -1", () -> mail.box(0, 0, -1));
        check.badArgument("what 3", () -> mail.box(0, 0, 3));
    }

    private static void emptyBoxes() {
        VillageMail mail = new VillageMail();
        check.due("not open", -1, mail.box(5, 2, 2));
        check.due("no letters", 0, mail.box(5, 2, 0));
        check.due("no bytes", 0, mail.box(5, 2, 1));
        check.refuses("read none", IndexOutOfBoundsException.class, () -> mail.read(5, 2, 0, 0));
        check.refuses("remove none", IndexOutOfBoundsException.class, () -> mail.remove(5, 2, 0));
        mail.household(5, 2, 0);
        check.due("open with 0", 0, mail.box(5, 2, 2));
        mail.household(5, 2, 200);
        check.due("open with 200", 200, mail.box(5, 2, 2));
        check.due("the next one is not", -1, mail.box(5, 1, 2));
        check.due("nor the next kiosk's", -1, mail.box(6, 2, 2));
    }

    private static void quotas() {
        VillageMail mail = new VillageMail();
        Scenes.post(mail, 10, 2, 2, 1, 0);
        check.due("waits: not open", 0, mail.box(2, 1, 0));
        mail.household(2, 1, 9);
        check.due("waits: a byte too few", 0, mail.box(2, 1, 0));
        check.due("its kiosk has it", 4, mail.custodians(0));
        mail.household(2, 1, 10);
        check.due("put in", 1, mail.box(2, 1, 0));
        check.due("its bytes", 10, mail.box(2, 1, 1));
        check.due("the quota stays", 10, mail.box(2, 1, 2));
        check.due("copies are freed", 0, mail.custodians(0));
        check.due("room again", 24, mail.store(2, 0));
        Scenes.post(mail, 1, 2, 2, 1, 0);
        check.due("those that lie in it count", 1, mail.box(2, 1, 0));
        mail.household(2, 1, 11);
        check.due("put behind", 2, mail.box(2, 1, 0));
        check.due("number", 0, mail.remove(2, 1, 0));
        Scenes.post(mail, 10, 2, 2, 1, 0);
        check.due("posted at its goal: put in at once", 2, mail.box(2, 1, 0));
        check.due("known at once", 1, mail.status(2));
    }

    private static void quotaTakenBack() {
        VillageMail mail = new VillageMail();
        mail.household(2, 1, 40);
        Scenes.post(mail, 32, 2, 2, 1, 0);
        mail.household(2, 1, 5);
        check.due("stays under a lesser quota", 1, mail.box(2, 1, 0));
        check.due("bytes", 32, mail.box(2, 1, 1));
        check.due("quota", 5, mail.box(2, 1, 2));
        Scenes.post(mail, 1, 2, 2, 1, 0);
        check.due("another waits", 1, mail.box(2, 1, 0));
        check.due("removed", 0, mail.remove(2, 1, 0));
        check.due("the other is put in", 1, mail.box(2, 1, 0));
        check.due("it is the other", 1, mail.remove(2, 1, 0));
    }

    private static void waitingInOrder() {
        VillageMail mail = new VillageMail();
        Scenes.post(mail, 6, 3, 3, 0, 2);
        Scenes.post(mail, 4, 3, 3, 0, 0);
        Scenes.post(mail, 2, 3, 3, 0, 0);
        mail.household(3, 0, 5);
        check.due("by numbers, what fits", 1, mail.box(3, 0, 0));
        check.due("four bytes", 4, mail.box(3, 0, 1));
        mail.household(3, 0, 6);
        check.due("the third fits now", 2, mail.box(3, 0, 0));
        check.due("the second left", 1, mail.remove(3, 0, 0));
        check.due("first still too long", 1, mail.box(3, 0, 0));
        check.due("the third left", 2, mail.remove(3, 0, 0));
        check.due("the first came", 0, mail.remove(3, 0, 0));
    }

    private static void groupsOfBoxes() {
        VillageMail mail = new VillageMail();
        check.due("in", true, mail.group(1, 0, 0));
        check.due("out", false, mail.group(1, 0, 0));
        check.due("in again", true, mail.group(1, 0, 0));
        check.due("another one", true, mail.group(1, 0, 2));
        check.due("another group", true, mail.group(1, 1, 0));
        mail.household(1, 0, 20);
        Scenes.post(mail, 9, 1, 1, 3, 1);
        check.due("box 2 is not open: none gets it", 0, mail.box(1, 0, 0));
        Scenes.post(mail, 9, 1, 1, 4, 1);
        check.due("the other group's one is", 1, mail.box(1, 0, 0));
        mail.household(1, 2, 8);
        check.due("box 2 is too small", 1, mail.box(1, 0, 0));
        mail.household(1, 2, 9);
        check.due("each gets it", 2, mail.box(1, 0, 0));
        check.due("each gets it, box 2 too", 1, mail.box(1, 2, 0));
        check.due("box 1 is in no group", 0, mail.box(1, 1, 0));
        check.due("behind those that lie there", 0, mail.remove(1, 0, 1));
        check.due("box 2 has it still", 0, mail.remove(1, 2, 0));
    }

    private static void emptyGroup() {
        VillageMail mail = new VillageMail();
        mail.household(1, 0, 20);
        Scenes.post(mail, 9, 1, 1, 4, 1);
        mail.minute(1);
        check.due("no box in the group: it waits", 2, mail.custodians(0));
        mail.group(1, 0, 0);
        check.due("the other group is not meant", 2, mail.custodians(0));
        mail.group(1, 1, 0);
        check.due("the group gets one", 1, mail.box(1, 0, 0));
    }

    private static void groupThatLosesABox() {
        VillageMail mail = new VillageMail();
        mail.household(1, 0, 20);
        mail.group(1, 0, 0);
        mail.group(1, 0, 1);
        Scenes.post(mail, 9, 1, 1, 3, 1);
        check.due("out", false, mail.group(1, 0, 1));
        check.due("it is not looked at", 0, mail.box(1, 0, 0));
        mail.minute(1);
        check.due("but in the next minute", 1, mail.box(1, 0, 0));
    }

    private static void readingAndRemoving() {
        VillageMail mail = new VillageMail();
        mail.household(6, 2, 200);
        mail.key(-1);
        mail.key(0x1ff80);
        mail.post(6, 6, 2, 0);
        for (int i = 0; i < 32; i++) {
            mail.key(i * 7);
        }
        mail.post(6, 6, 2, 0);
        Scenes.post(mail, 9, 6, 6, 2, 0);
        check.due("byte 255", 255, mail.read(6, 2, 0, 0));
        check.due("lowest 8 bits", 128, mail.read(6, 2, 0, 1));
        for (int i = 0; i < 32; i++) {
            check.due("byte " + i, i * 7 & 255, mail.read(6, 2, 1, i));
        }
        check.refuses("byte 2 of 2", IndexOutOfBoundsException.class, () -> mail.read(6, 2, 0, 2));
        check.refuses("byte 32", IndexOutOfBoundsException.class, () -> mail.read(6, 2, 1, 32));
        check.refuses("byte 9 of 9", IndexOutOfBoundsException.class, () -> mail.read(6, 2, 2, 9));
        check.refuses("byte -1", IndexOutOfBoundsException.class, () -> mail.read(6, 2, 0, -1));
        check.refuses("letter 3", IndexOutOfBoundsException.class, () -> mail.read(6, 2, 3, 0));
        check.refuses("letter -1", IndexOutOfBoundsException.class, () -> mail.read(6, 2, -1, 0));
        check.refuses("no letter 3 to remove", IndexOutOfBoundsException.class, () -> mail.remove(6, 2, 3));
        check.refuses("no letter -1 to remove", IndexOutOfBoundsException.class, () -> mail.remove(6, 2, -1));
        check.due("the middle one", 1, mail.remove(6, 2, 1));
        check.due("those behind come up", 9, mail.read(6, 2, 1, 8));
        check.due("bytes left", 11, mail.box(6, 2, 1));
        check.due("letters left", 2, mail.box(6, 2, 0));
        check.due("last one", 2, mail.remove(6, 2, 1));
        check.due("first one", 0, mail.remove(6, 2, 0));
        check.due("empty", 0, mail.box(6, 2, 1));
        mail.minute(10000);
        check.due("status stays", 1, mail.status(1));
        check.due("never put in again", 0, mail.box(6, 2, 0));
    }

    /** Byte 0's bit 0, turned by 5, falls on byte 1's bit 5: the sum does not see both. */
    private static void equalSums() {
        VillageMail mail = new VillageMail();
        mail.key(10);
        mail.key(20);
        mail.post(4, 4, 0, 0);
        mail.spoil(4, 0, 0, 0, 1);
        mail.spoil(4, 0, 0, 1, 32);
        mail.household(4, 0, 2);
        check.due("delivered", 1, mail.status(0));
        check.due("as it came, byte 0", 11, mail.read(4, 0, 0, 0));
        check.due("as it came, byte 1", 52, mail.read(4, 0, 0, 1));
    }

    /** In 8 bytes byte 0 is turned by 35 bits, so its bit 0 falls on byte 7's bit 3; no bit is lost. */
    private static void sumsTurnRound() {
        VillageMail equal = new VillageMail();
        Scenes.post(equal, 8, 4, 4, 0, 0);
        equal.spoil(4, 0, 0, 0, 1);
        equal.spoil(4, 0, 0, 7, 8);
        equal.household(4, 0, 8);
        check.due("equal", 1, equal.status(0));
        for (int i = 0; i < 32; i++) {
            VillageMail mail = new VillageMail();
            Scenes.post(mail, 32, 4, 4, 0, 0);
            mail.spoil(4, 0, i / 8, i % 8, 128);
            mail.household(4, 0, 200);
            check.due("byte " + i + " is seen", 2, mail.status(0));
        }
    }
}
