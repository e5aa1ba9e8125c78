import java.util.NoSuchElementException;

/** Edges of meetings and stores: n of 0, 1 and 40, the last room, equal arrivals, the last piece, what a reboot leaves. */
public final class EdgeMeetingsTest {
    private static final Check check = new Check();

    public static void main(String[] args) {
        noPieces();
        onePieceEachWay();
        asManyAsOffered();
        fortyPieces();
        lastRoomOfABus();
        lastRoomOfAKiosk();
        refusalsBehindN();
        roomOfEachStore();
        arrivalsBesideEachOther();
        neverBesideNever();
        theGoalGivesNothing();
        equalNumbersGoByTheOrder();
        sameTimetable();
        equalHopsStay();
        copiesAreApart();
        hopsGoOn();
        breakOffWithoutPieces();
        breakOffOfOnePiece();
        breakOffBeforeRefusals();
        breakOffWhenAllIsRefused();
        breakOffLearnsAllButTheLast();
        breakOffTwice();
        rebootOfEachStore();
        rebootKeepsCopies();
        rebootLeavesNewsOfNoHops();
        rebootKeepsCounts();
        rebootKeepsLettersOfItsOwn();
        spoilsOneBit();
        custodiansAreBits();
        check.end();
    }

    private static void noPieces() {
        VillageMail mail = Scenes.onTheWay(16, 0);
        Scenes.post(mail, 8, 1, 2, 0, 0);
        check.due("none", 0, mail.meet(8, 1, 0));
        check.due("the bus has its own", 8, mail.store(8, 0));
        check.due("the kiosk has its own", 23, mail.store(1, 0));
        check.due("no refusals", 0, mail.store(8, 3) + mail.store(1, 3));
        check.due("the timetable is told", 1, mail.store(1, 1));
        mail.household(1, 0, 16);
        mail.meet(8, 1, 40);
        mail.meet(8, 1, 0);
        mail.meet(8, 0, 0);
        check.due("news are told", 1, mail.status(0));
    }

    private static void onePieceEachWay() {
        VillageMail mail = Scenes.onTheWay(16, 0);
        Scenes.post(mail, 16, 1, 2, 0, 0);
        check.due("one and one", 2, mail.meet(8, 1, 1));
        check.due("of letter 0", 1 << 8 | 1 << 1, mail.custodians(0));
        check.due("of letter 1", 1 << 8 | 1 << 1, mail.custodians(1));
        check.due("one and one again", 2, mail.meet(8, 1, 1));
        check.due("all of letter 0", 1 << 1, mail.custodians(0));
        check.due("all of letter 1", 1 << 8, mail.custodians(1));
        check.due("nothing is left", 0, mail.meet(8, 1, 1));
    }

    private static void asManyAsOffered() {
        for (int n = 2; n < 5; n++) {
            VillageMail mail = Scenes.line();
            Scenes.post(mail, 24, 0, 2, 0, 0);
            mail.minute(100);
            check.due("three offered, n = " + n, Math.min(3, n), mail.meet(8, 0, n));
            check.due("on the bus", 10 - Math.min(3, n), mail.store(8, 0));
        }
    }

    private static void fortyPieces() {
        VillageMail mail = Scenes.line();
        Scenes.post(mail, 32, 0, 1, 0, 0);
        Scenes.post(mail, 32, 0, 1, 0, 0);
        Scenes.post(mail, 9, 0, 1, 0, 0);
        mail.minute(100);
        check.due("ten up", 10, mail.meet(8, 0, 40));
        mail.minute(100);
        for (int i = 0; i < 3; i++) {
            Scenes.post(mail, 32, 1, 2, 0, 0);
        }
        check.due("ten down and ten up", 20, mail.meet(8, 1, 40));
        check.due("two found no room", 2, mail.store(8, 3));
        check.badArgument("no more than 40", () -> mail.meet(8, 1, 41));
        check.badArgument("no less than 0", () -> mail.breakOff(8, 1, -1));
    }

    private static void lastRoomOfABus() {
        VillageMail mail = Scenes.line();
        Scenes.post(mail, 32, 0, 1, 0, 0);
        Scenes.post(mail, 32, 0, 1, 0, 0);
        Scenes.post(mail, 8, 0, 1, 0, 0);
        mail.minute(100);
        check.due("nine", 9, mail.meet(8, 0, 40));
        check.due("room for one", 1, mail.store(8, 0));
        check.due("no refusal", 0, mail.store(8, 3));
        Scenes.post(mail, 24, 0, 1, 0, 0);
        check.due("the tenth", 1, mail.meet(8, 0, 40));
        check.due("no room", 0, mail.store(8, 0));
        check.due("two refusals", 2, mail.store(8, 3));
        check.due("two are left", 22, mail.store(0, 0));
        check.due("none", 0, mail.meet(8, 0, 1));
        check.due("a refusal counts for nothing: both are tried", 4, mail.store(8, 3));
    }

    private static void lastRoomOfAKiosk() {
        VillageMail mail = Scenes.onTheWay(24, 0);
        for (int i = 0; i < 5; i++) {
            Scenes.post(mail, 32, 1, 7, 0, 0);
        }
        Scenes.post(mail, 16, 1, 7, 0, 0);
        check.due("room for two", 2, mail.store(1, 0));
        check.due("two of three", 2, mail.meet(8, 1, 40));
        check.due("full", 0, mail.store(1, 0));
        check.due("one refusal", 1, mail.store(1, 3));
        check.due("none of the bus", 0, mail.store(8, 3));
        check.due("the bus has the third", 9, mail.store(8, 0));
        mail.key(1);
        check.badState("a full kiosk posts nothing", () -> mail.post(1, 7, 0, 0));
        check.due("a refusal more", 0, mail.breakOff(8, 1, 40));
        check.due("two refusals", 2, mail.store(1, 3));
    }

    private static void refusalsBehindN() {
        for (int n = 9; n < 12; n++) {
            VillageMail mail = Scenes.line();
            for (int i = 0; i < 3; i++) {
                Scenes.post(mail, 32, 0, 1, 0, 0);
            }
            mail.minute(100);
            check.due("room for ten, n = " + n, Math.min(10, n), mail.meet(8, 0, n));
            check.due("tried behind the tenth only if n is more", n > 10 ? 2 : 0, mail.store(8, 3));
        }
    }

    private static void roomOfEachStore() {
        for (int bus = 8; bus < 12; bus++) {
            VillageMail mail = new VillageMail();
            mail.stop(bus, 6, 100);
            mail.publish();
            for (int i = 0; i < 6; i++) {
                Scenes.post(mail, 32, 0, 6, 0, 0);
            }
            check.due("kiosk 0 is full", 0, mail.store(0, 0));
            check.due("bus " + bus, 10, mail.meet(bus, 0, 40));
            check.due("is full", 0, mail.store(bus, 0));
        }
        for (int kiosk = 0; kiosk < 8; kiosk++) {
            VillageMail mail = new VillageMail();
            for (int i = 0; i < 6; i++) {
                Scenes.post(mail, 32, kiosk, 7 - kiosk, 0, 0);
            }
            check.due("kiosk " + kiosk, 0, mail.store(kiosk, 0));
            mail.key(1);
            int full = kiosk;
            check.badState("a 25th piece", () -> mail.post(full, 0, 0, 0));
        }
    }

    /** From kiosk 0 at the next minute one comes to kiosk 1 at 150; from bus 8 at a minute beside that. */
    private static VillageMail beside(int arrival) {
        VillageMail mail = new VillageMail();
        mail.stop(9, 0, 100);
        mail.stop(9, 1, 150);
        mail.stop(8, 1, arrival);
        mail.publish();
        mail.minute(99);
        return mail;
    }

    private static void arrivalsBesideEachOther() {
        for (int arrival = 149; arrival < 152; arrival++) {
            VillageMail fromKiosk = beside(arrival);
            Scenes.post(fromKiosk, 1, 0, 1, 0, 0);
            check.due("the kiosk gives if not greater: " + arrival, arrival > 150 ? 0 : 1, fromKiosk.meet(8, 0, 40));
            VillageMail fromBus = beside(arrival);
            fromBus.meet(8, 0, 0);
            Scenes.post(fromBus, 1, 3, 1, 0, 0);
            check.due("on the bus", 1, fromBus.meet(8, 3, 40));
            check.due("the bus gives if less: " + arrival, arrival > 150 ? 1 : 0, fromBus.meet(8, 0, 40));
        }
    }

    private static void neverBesideNever() {
        VillageMail mail = Scenes.line();
        Scenes.post(mail, 1, 0, 5, 0, 0);
        mail.minute(100);
        check.due("a kiosk gives nothing to a bus that never comes", 0, mail.meet(8, 0, 40));
        check.due("nor to one without stops", 0, mail.meet(11, 0, 40));
        Scenes.post(mail, 1, 0, 2, 0, 0);
        check.due("on bus 8", 1, mail.meet(8, 0, 40));
        mail.cancel(8, 300);
        mail.publish();
        mail.meet(9, 0, 0);
        mail.meet(9, 4, 0);
        check.due("never from both: the bus gives nothing", 0, mail.meet(8, 4, 40));
        check.due("though it holds the new timetable", 2, mail.store(8, 1));
        check.due("its goal takes it at any time", 1, mail.meet(8, 2, 40));
    }

    private static void theGoalGivesNothing() {
        VillageMail mail = new VillageMail();
        mail.stop(8, 1, 50);
        mail.stop(8, 1, 60);
        mail.publish();
        mail.meet(8, 0, 0);
        Scenes.post(mail, 1, 1, 1, 0, 0);
        mail.minute(50);
        check.due("it waits in its goal", 0, mail.meet(8, 1, 40));
        check.due("held", 2, mail.custodians(0));
    }

    private static void equalNumbersGoByTheOrder() {
        VillageMail mail = Scenes.line();
        Scenes.post(mail, 8, 0, 2, 0, 2);
        Scenes.post(mail, 8, 0, 2, 0, 1);
        Scenes.post(mail, 8, 0, 2, 0, 1);
        Scenes.post(mail, 16, 0, 2, 0, 0);
        mail.minute(100);
        mail.meet(8, 0, 1);
        check.due("urgent first, its first piece", 1, mail.spoil(8, 3, 0, 0, 0));
        check.refuses("not its second", NoSuchElementException.class, () -> mail.spoil(8, 3, 1, 0, 0));
        mail.meet(8, 0, 1);
        check.due("its second piece", 1 << 8, mail.custodians(3));
        mail.meet(8, 0, 1);
        check.due("the letter with the lesser number", 1 << 8, mail.custodians(1));
        check.due("not that with the greater", 1, mail.custodians(2));
        mail.meet(8, 0, 1);
        check.due("then that", 1 << 8, mail.custodians(2));
        check.due("the parcel is left", 1, mail.custodians(0));
        mail.meet(8, 0, 1);
        check.due("it is the last", 1 << 8, mail.custodians(0));
    }

    private static void sameTimetable() {
        VillageMail mail = Scenes.line();
        mail.meet(8, 0, 0);
        check.due("the higher one", 1, mail.store(8, 1));
        mail.meet(8, 0, 0);
        check.due("equal ones stay", 1, mail.store(8, 1) * mail.store(0, 1));
        mail.meet(8, 3, 0);
        check.due("the bus's is the higher", 1, mail.store(3, 1));
        mail.publish();
        mail.meet(8, 3, 0);
        check.due("the new one is kiosk 0's alone", 1, mail.store(8, 1));
        mail.meet(8, 0, 0);
        mail.meet(8, 3, 0);
        check.due("brought", 2, mail.store(3, 1));
    }

    /** Buses 8 and 9 both get a copy of one hop: to hear of one hop frees none of them. */
    private static VillageMail twoCopies() {
        VillageMail mail = new VillageMail();
        mail.stop(8, 2, 300);
        mail.stop(9, 2, 310);
        mail.publish();
        Scenes.post(mail, 1, 0, 2, 0, 0);
        mail.breakOff(8, 0, 40);
        mail.meet(9, 0, 40);
        return mail;
    }

    private static void equalHopsStay() {
        VillageMail mail = twoCopies();
        check.due("kiosk 0 learned it from bus 9", 1 << 8 | 1 << 9, mail.custodians(0));
        mail.meet(8, 0, 40);
        check.due("equal hops stay on bus 8", 1 << 8 | 1 << 9, mail.custodians(0));
        mail.meet(8, 4, 40);
        mail.meet(9, 4, 40);
        check.due("and on bus 9", 1 << 8 | 1 << 9, mail.custodians(0));
        mail.meet(8, 2, 40);
        check.due("bus 8 gives its own", 1 << 9 | 1 << 2, mail.custodians(0));
        mail.meet(8, 4, 0);
        mail.meet(9, 4, 0);
        check.due("more hops free bus 9's", 1 << 2, mail.custodians(0));
    }

    private static void copiesAreApart() {
        VillageMail mail = twoCopies();
        check.due("spoilt on bus 9", 1 ^ 64, mail.spoil(9, 0, 0, 0, 64));
        check.due("whole on bus 8", 1, mail.spoil(8, 0, 0, 0, 0));
        mail.household(2, 0, 1);
        mail.meet(8, 2, 40);
        check.due("the whole one is put in", 1, mail.read(2, 0, 0, 0));
    }

    /** The hops of a copy are one more than the giver's: else bus 9's news of three would not free it in kiosk 3. */
    private static void hopsGoOn() {
        VillageMail mail = new VillageMail();
        mail.stop(8, 3, 10);
        mail.stop(9, 3, 20);
        mail.stop(9, 2, 30);
        mail.publish();
        Scenes.post(mail, 1, 0, 2, 0, 0);
        mail.minute(1);
        check.due("one hop", 1, mail.meet(8, 0, 40));
        mail.minute(9);
        check.due("two", 1, mail.meet(8, 3, 40));
        mail.minute(10);
        check.due("three, kiosk 3 does not learn", 1, mail.breakOff(9, 3, 40));
        check.due("both", 1 << 3 | 1 << 9, mail.custodians(0));
        mail.meet(8, 3, 0);
        check.due("bus 8 has news of two", 1 << 3 | 1 << 9, mail.custodians(0));
        mail.meet(9, 5, 0);
        mail.meet(8, 5, 0);
        mail.meet(8, 3, 0);
        check.due("of three by kiosk 5", 1 << 9, mail.custodians(0));
    }

    private static void breakOffWithoutPieces() {
        VillageMail mail = Scenes.line();
        Scenes.post(mail, 8, 0, 2, 0, 0);
        mail.minute(100);
        check.due("n = 0", 0, mail.breakOff(8, 0, 0));
        check.due("the timetable is told", 1, mail.store(8, 1));
        check.due("the kiosk has it", 1, mail.custodians(0));
        mail.meet(8, 0, 40);
        check.due("nothing offered", 0, mail.breakOff(8, 0, 40));
        check.due("the piece of another meeting is not taken back", 1 << 8, mail.custodians(0));
        check.due("kiosk 0 has its room", 24, mail.store(0, 0));
    }

    private static void breakOffOfOnePiece() {
        VillageMail mail = Scenes.line();
        Scenes.post(mail, 8, 0, 1, 0, 0);
        mail.minute(100);
        check.due("from the kiosk", 1, mail.breakOff(8, 0, 1));
        check.due("both", 1 | 1 << 8, mail.custodians(0));
        check.due("kiosk 0's room", 23, mail.store(0, 0));
        check.due("the bus's room", 9, mail.store(8, 0));
        mail.minute(100);
        check.due("from the bus", 1, mail.breakOff(8, 1, 1));
        check.due("all three", 1 | 1 << 1 | 1 << 8, mail.custodians(0));
        check.due("the bus has it still", 9, mail.store(8, 0));
    }

    private static void breakOffBeforeRefusals() {
        VillageMail mail = Scenes.line();
        for (int i = 0; i < 3; i++) {
            Scenes.post(mail, 32, 0, 1, 0, 0);
        }
        mail.minute(100);
        check.due("ten of twelve", 10, mail.breakOff(8, 0, 40));
        check.due("two refused", 2, mail.store(8, 3));
        check.due("the tenth and two more are left", 21, mail.store(0, 0));
        check.due("the tenth", 9, mail.spoil(0, 2, 1, 0, 0));
        check.refuses("the ninth is not", NoSuchElementException.class, () -> mail.spoil(0, 2, 0, 0, 0));
    }

    private static void breakOffWhenAllIsRefused() {
        VillageMail mail = Scenes.line();
        for (int i = 0; i < 3; i++) {
            Scenes.post(mail, 32, 0, 1, 0, 0);
        }
        mail.minute(100);
        mail.meet(8, 0, 40);
        check.due("full", 0, mail.store(8, 0));
        check.due("none", 0, mail.breakOff(8, 0, 40));
        check.due("two and two refused", 4, mail.store(8, 3));
        check.due("two are left", 22, mail.store(0, 0));
        check.due("the bus is full, not more", 0, mail.store(8, 0));
    }

    private static void breakOffLearnsAllButTheLast() {
        for (int n = 1; n < 5; n++) {
            VillageMail mail = Scenes.onTheWay(32, 0);
            check.due("from the bus", n, mail.breakOff(8, 1, n));
            check.due("in the kiosk", 24 - n, mail.store(1, 0));
            check.due("the bus learned all but one", 10 - (4 - n + 1), mail.store(8, 0));
            check.due("then it learns that one, too, and gives the rest", 4 - n, mail.meet(8, 1, 40));
            check.due("all there", 2, mail.custodians(0));
        }
    }

    private static void breakOffTwice() {
        VillageMail mail = Scenes.line();
        Scenes.post(mail, 16, 0, 2, 0, 0);
        mail.minute(100);
        check.due("the first", 1, mail.breakOff(8, 0, 1));
        check.due("two in the kiosk", 22, mail.store(0, 0));
        check.due("the second", 1, mail.breakOff(8, 0, 1));
        check.due("the first is learned of, the second not", 23, mail.store(0, 0));
        check.due("none", 0, mail.breakOff(8, 0, 1));
        check.due("both are learned of", 24, mail.store(0, 0));
        check.due("both on the bus", 8, mail.store(8, 0));
    }

    private static void rebootOfEachStore() {
        for (int store = 0; store < 12; store++) {
            VillageMail mail = Scenes.line();
            for (int bus = 8; bus < 12; bus++) {
                mail.meet(bus, 0, 0);
            }
            for (int kiosk = 0; kiosk < 8; kiosk++) {
                mail.meet(8, kiosk, 0);
            }
            mail.reboot(store);
            for (int i = 0; i < 12; i++) {
                check.due("timetable of " + i + " when " + store + " is rebooted", i == store ? 0 : 1, mail.store(i, 1));
            }
            check.due("the postmaster's stays", 200, mail.best(0, 1, 0));
        }
        VillageMail mail = new VillageMail();
        check.badArgument("no store -1", () -> mail.reboot(-1));
        check.badArgument("no store 12", () -> mail.reboot(12));
    }

    private static void rebootKeepsCopies() {
        VillageMail mail = Scenes.onTheWay(16, 0);
        mail.reboot(8);
        check.due("on the bus", 1 << 8, mail.custodians(0));
        check.due("its room", 8, mail.store(8, 0));
        check.due("its bytes", 9, mail.spoil(8, 0, 1, 0, 0));
        check.due("its goal gets it without a timetable", 2, mail.meet(8, 1, 40));
        mail.reboot(1);
        mail.household(1, 0, 16);
        check.due("it waited there", 1, mail.box(1, 0, 0));
    }

    /** News of 0 hops, as at first, free no copy of a posted letter. */
    private static void rebootLeavesNewsOfNoHops() {
        VillageMail mail = Scenes.line();
        Scenes.post(mail, 16, 0, 1, 0, 0);
        mail.minute(100);
        mail.reboot(8);
        mail.reboot(9);
        check.due("bus 9 brings no news", 0, mail.meet(9, 0, 40));
        check.due("kiosk 0 has both pieces", 22, mail.store(0, 0));
        check.due("bus 8 takes both", 2, mail.meet(8, 0, 40));
        mail.reboot(0);
        mail.reboot(1);
        mail.minute(100);
        mail.meet(9, 0, 0);
        mail.meet(9, 1, 0);
        check.due("kiosk 0 has forgotten: nothing is freed by its news", 1 << 8, mail.custodians(0));
        check.due("nor by kiosk 1's", 2, mail.meet(8, 1, 40));
    }

    private static void rebootKeepsCounts() {
        VillageMail mail = Scenes.line();
        for (int i = 0; i < 3; i++) {
            Scenes.post(mail, 32, 0, 1, 0, 0);
        }
        mail.minute(100);
        mail.meet(8, 0, 40);
        mail.minute(7100);
        mail.reboot(8);
        check.due("refusals", 2, mail.store(8, 3));
        check.due("expired", 3, mail.store(8, 2));
        check.due("room", 10, mail.store(8, 0));
    }

    private static void rebootKeepsLettersOfItsOwn() {
        int[] rebooted = {0, 1, 3, 8};
        for (int store : rebooted) {
            VillageMail mail = Scenes.onTheWay(8, 0);
            mail.household(1, 0, 8);
            mail.meet(8, 1, 40);
            mail.meet(8, 1, 0);
            mail.meet(8, 3, 0);
            if (store == 0) {
                mail.meet(8, 0, 0);
            }
            mail.reboot(store);
            mail.meet(9, store < 8 ? store : 5, 0);
            mail.meet(store < 8 ? 9 : store, 0, 0);
            check.due("what is told of letter 0 by " + store, store < 2 ? 1 : 0, mail.status(0));
        }
    }

    private static void spoilsOneBit() {
        VillageMail mail = Scenes.onTheWay(32, 0);
        for (int bit = 0; bit < 8; bit++) {
            check.due("bit " + bit, 8 ^ (1 << bit), mail.spoil(8, 0, 0, 7, 1 << bit));
            check.due("back", 8, mail.spoil(8, 0, 0, 7, 1 << bit));
        }
        check.due("no ninth bit", 8, mail.spoil(8, 0, 0, 7, 256));
        check.due("nor the sign", 8, mail.spoil(8, 0, 0, 7, Integer.MIN_VALUE));
        check.due("all eight", 247, mail.spoil(8, 0, 0, 7, -1));
        check.due("the byte before", 7, mail.spoil(8, 0, 0, 6, 0));
        check.due("the piece behind", 9, mail.spoil(8, 0, 1, 0, 0));
        check.due("the last byte of all", 32, mail.spoil(8, 0, 3, 7, 0));
        check.badArgument("no fifth piece", () -> mail.spoil(8, 0, 4, 0, 0));
    }

    private static void custodiansAreBits() {
        for (int kiosk = 0; kiosk < 8; kiosk++) {
            VillageMail mail = new VillageMail();
            Scenes.post(mail, 32, kiosk, 7 - kiosk, 0, 0);
            check.due("kiosk " + kiosk, 1 << kiosk, mail.custodians(0));
        }
        for (int bus = 8; bus < 12; bus++) {
            VillageMail mail = new VillageMail();
            mail.stop(bus, 6, 100);
            mail.publish();
            Scenes.post(mail, 32, 0, 6, 0, 0);
            mail.meet(bus, 0, 40);
            check.due("bus " + bus, 1 << bus, mail.custodians(0));
        }
    }
}
