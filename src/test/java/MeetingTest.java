/** Promises 10, 11, 12 and 21: meet, breakOff, reboot, store. */
public final class MeetingTest {
    private static final Check check = new Check();

    public static void main(String[] args) {
        wrongArguments();
        timetables();
        offersOfTheKiosk();
        offersOfTheBus();
        equalArrivals();
        neverIsNoOffer();
        nextMinuteOfTheKiosk();
        nextMinuteOfTheBus();
        orderOfPieces();
        refusals();
        refusalsStopAtN();
        roomThatADeliveryFrees();
        onlyTheLetterOfTheLastPiece();
        newsFreeCopies();
        deliveredNewsFreeCopies();
        breakOffAtTheKiosk();
        breakOffAtTheBus();
        breakOffBothWays();
        breakOffOfAFullBus();
        breakOffOfNothing();
        rebootForgetsPieces();
        rebootForgetsLetters();
        check.end();
    }

    private static void wrongArguments() {
        VillageMail mail = new VillageMail();
        int[][] bad = {{7, 0, 1}, {12, 0, 1}, {8, -1, 1}, {8, 8, 1}, {8, 0, -1}, {8, 0, 41}};
        for (int[] a : bad) {
            check.badArgument("meet", () -> mail.meet(a[0], a[1], a[2]));
            check.badArgument("breakOff", () -> mail.breakOff(a[0], a[1], a[2]));
        }
        check.due("nothing to move", 0, mail.meet(11, 7, 40));
        check.due("nothing to break off", 0, mail.breakOff(11, 7, 40));
        check.badArgument("reboot -1", () -> mail.reboot(-1));
        check.badArgument("reboot 12", () -> mail.reboot(12));
        check.badArgument("store -1", () -> mail.store(-1, 0));
        check.badArgument("store 12", () -> mail.store(12, 0));
        check.badArgument("what -1", () -> mail.store(0, -1));
        check.badArgument("what 4", () -> mail.store(0, 4));
        for (int i = 0; i < 12; i++) {
            check.due("room of " + i, i < 8 ? 24 : 10, mail.store(i, 0));
            for (int what = 1; what < 4; what++) {
                check.due("store " + i, 0, mail.store(i, what));
            }
        }
    }

    private static void timetables() {
        VillageMail mail = Scenes.line();
        mail.meet(8, 0, 0);
        check.due("the bus takes it", 1, mail.store(8, 1));
        mail.publish();
        mail.meet(9, 0, 0);
        check.due("the later one", 2, mail.store(9, 1));
        mail.breakOff(8, 3, 0);
        mail.breakOff(9, 3, 0);
        check.due("the kiosk takes it", 2, mail.store(3, 1));
        mail.meet(8, 3, 0);
        check.due("the bus takes the higher one", 2, mail.store(8, 1));
        mail.reboot(0);
        check.due("forgotten", 0, mail.store(0, 1));
        mail.meet(8, 0, 0);
        check.due("from the bus", 2, mail.store(0, 1));
    }

    private static void offersOfTheKiosk() {
        VillageMail mail = Scenes.line();
        Scenes.post(mail, 9, 0, 2, 0, 0);
        mail.minute(100);
        check.due("n = 0", 0, mail.meet(8, 0, 0));
        check.due("bus 9 goes nowhere", 0, mail.meet(9, 0, 40));
        check.due("bus 8 does", 2, mail.meet(8, 0, 40));
        check.due("bus 8 has them", 1 << 8, mail.custodians(0));
        check.due("its room", 8, mail.store(8, 0));
        check.due("kiosk 0's room", 24, mail.store(0, 0));
        check.due("none again", 0, mail.meet(8, 0, 40));
    }

    private static void offersOfTheBus() {
        VillageMail mail = new VillageMail();
        mail.stop(8, 0, 100);
        mail.stop(8, 1, 200);
        mail.stop(8, 2, 500);
        mail.stop(9, 1, 201);
        mail.stop(9, 2, 250);
        mail.publish();
        Scenes.post(mail, 1, 0, 2, 0, 0);
        mail.minute(100);
        mail.meet(8, 0, 40);
        mail.minute(100);
        check.due("kiosk 1 is earlier by bus 9", 1, mail.meet(8, 1, 40));
        check.due("kiosk 1 has it", 2, mail.custodians(0));
        mail.minute(1);
        check.due("to bus 9", 1, mail.meet(9, 1, 40));
        mail.minute(1);
        check.due("its goal takes it at any time", 1, mail.meet(9, 2, 40));
        check.due("kiosk 2 has it", 4, mail.custodians(0));
        check.due("a goal offers nothing", 0, mail.meet(8, 2, 40));
    }

    private static void equalArrivals() {
        VillageMail mail = Scenes.line();
        Scenes.post(mail, 1, 0, 2, 0, 0);
        check.due("now or at 100: the kiosk gives", 1, mail.meet(8, 0, 40));
        check.due("the bus does not give back", 0, mail.meet(8, 0, 40));
        check.due("nor at kiosk 1", 0, mail.meet(8, 1, 40));
        check.due("nor where it would come never", 0, mail.meet(8, 5, 40));
        mail.minute(99);
        check.due("nor a minute before", 0, mail.meet(8, 0, 40));
        mail.minute(1);
        check.due("nor then", 0, mail.meet(8, 0, 40));
        check.due("bus 8 has it", 1 << 8, mail.custodians(0));
    }

    private static void neverIsNoOffer() {
        VillageMail mail = new VillageMail();
        Scenes.post(mail, 1, 0, 2, 0, 0);
        check.due("no timetable: never from both", 0, mail.meet(8, 0, 40));
        mail.stop(8, 0, 5);
        mail.stop(8, 2, 7);
        mail.publish();
        check.due("moved by the first", 1, mail.meet(8, 0, 40));
        mail.cancel(8, 5);
        mail.cancel(8, 7);
        mail.stop(9, 0, 20);
        mail.stop(9, 2, 30);
        mail.publish();
        mail.meet(9, 0, 0);
        mail.meet(9, 4, 0);
        check.due("by the second: never from bus 8, nor from kiosk 4", 0, mail.meet(8, 4, 40));
        check.due("bus 8 has it", 1 << 8, mail.custodians(0));
        check.due("never is greater than any", 1, mail.meet(8, 0, 40));
        check.due("kiosk 0 has it", 1, mail.custodians(0));
        check.due("and keeps it from bus 8", 0, mail.meet(8, 0, 40));
    }

    private static void nextMinuteOfTheKiosk() {
        VillageMail mail = new VillageMail();
        mail.stop(8, 0, 100);
        mail.stop(8, 1, 200);
        mail.stop(9, 0, 100);
        mail.stop(9, 1, 150);
        mail.publish();
        Scenes.post(mail, 1, 0, 1, 0, 0);
        mail.minute(99);
        check.due("bus 9 can be waited for", 0, mail.meet(8, 0, 40));
        mail.minute(1);
        check.due("at its minute it is gone", 1, mail.meet(8, 0, 40));
    }

    private static void nextMinuteOfTheBus() {
        int[] minutes = {100, 101};
        for (int minute : minutes) {
            VillageMail mail = new VillageMail();
            mail.stop(8, 1, 101);
            mail.stop(9, 0, 102);
            mail.stop(9, 1, 150);
            mail.publish();
            Scenes.post(mail, 1, 0, 1, 0, 0);
            mail.minute(minute);
            check.due("bus 8 sees its stop of 101 at 100, not at 101", 101 - minute, mail.meet(8, 0, 40));
        }
    }

    private static void orderOfPieces() {
        VillageMail mail = Scenes.line();
        Scenes.post(mail, 16, 0, 2, 0, 2);
        Scenes.post(mail, 16, 0, 2, 0, 1);
        Scenes.post(mail, 16, 0, 2, 0, 0);
        Scenes.post(mail, 16, 0, 2, 0, 1);
        mail.minute(100);
        int[] order = {2, 2, 1, 1, 3, 3, 0, 0};
        for (int i = 0; i < order.length; i++) {
            check.due("one", 1, mail.meet(8, 0, 1));
            for (int letter = 0; letter < 4; letter++) {
                int given = 0;
                for (int j = 0; j <= i; j++) {
                    given += order[j] == letter ? 1 : 0;
                }
                int due = (given < 2 ? 1 : 0) | (given > 0 ? 1 << 8 : 0);
                check.due("letter " + letter + " at " + i, due, mail.custodians(letter));
            }
        }
        mail.minute(200);
        mail.meet(8, 2, 1);
        check.due("piece 0 first", 2, mail.spoil(2, 2, 0, 1, 0));
        check.due("the bus by class, too", 1 << 8 | 1 << 2, mail.custodians(2));
    }

    private static void refusals() {
        VillageMail mail = Scenes.line();
        for (int i = 0; i < 6; i++) {
            Scenes.post(mail, 32, 0, 1, 0, 1);
        }
        mail.minute(100);
        check.due("n = 0", 0, mail.meet(8, 0, 0));
        check.due("none tried", 0, mail.store(8, 3));
        check.due("ten", 10, mail.meet(8, 0, 40));
        check.due("the others", 14, mail.store(8, 3));
        check.due("full", 0, mail.store(8, 0));
        check.due("half a letter", 1 | 1 << 8, mail.custodians(2));
        check.due("none", 0, mail.meet(8, 0, 3));
        check.due("all others again", 28, mail.store(8, 3));
        check.due("none of kiosk 0's", 0, mail.store(0, 3));
        mail.minute(100);
        for (int i = 0; i < 5; i++) {
            Scenes.post(mail, 32, 1, 7, 0, 1);
        }
        check.due("kiosk 1 is filled", 4, mail.meet(8, 1, 40));
        check.due("its refusals", 6, mail.store(1, 3));
    }

    private static void refusalsStopAtN() {
        VillageMail mail = Scenes.line();
        for (int i = 0; i < 6; i++) {
            Scenes.post(mail, 32, 0, 1, 0, 1);
        }
        mail.minute(100);
        check.due("just its room", 10, mail.meet(8, 0, 10));
        check.due("no refusal", 0, mail.store(8, 3));
    }

    private static void roomThatADeliveryFrees() {
        VillageMail mail = Scenes.line();
        mail.household(1, 0, 200);
        Scenes.post(mail, 8, 0, 1, 0, 1);
        Scenes.post(mail, 8, 0, 1, 0, 1);
        for (int i = 0; i < 5; i++) {
            Scenes.post(mail, 32, 1, 7, 0, 1);
        }
        Scenes.post(mail, 24, 1, 7, 0, 1);
        mail.minute(100);
        check.due("two on the bus", 2, mail.meet(8, 0, 40));
        mail.minute(100);
        check.due("room for one", 1, mail.store(1, 0));
        check.due("one behind the other", 2, mail.meet(8, 1, 40));
        check.due("both lie there", 2, mail.box(1, 0, 0));
        check.due("no refusal", 0, mail.store(1, 3));
    }

    private static void onlyTheLetterOfTheLastPiece() {
        VillageMail mail = Scenes.line();
        mail.household(1, 0, 200);
        mail.group(1, 0, 0);
        mail.group(1, 0, 1);
        Scenes.post(mail, 2, 1, 1, 3, 1);
        Scenes.post(mail, 3, 0, 1, 0, 1);
        mail.minute(100);
        mail.meet(8, 0, 40);
        mail.group(1, 0, 1);
        check.due("letter 1 comes", 1, mail.meet(8, 1, 40));
        check.due("it lies there", 3, mail.box(1, 0, 1));
        check.due("letter 0 was not looked at", 2, mail.custodians(0));
    }

    private static void newsFreeCopies() {
        VillageMail mail = Scenes.line();
        mail.stop(9, 0, 100);
        mail.stop(9, 2, 310);
        mail.publish();
        Scenes.post(mail, 1, 0, 2, 0, 0);
        mail.minute(100);
        check.due("left in kiosk 0", 1, mail.breakOff(8, 0, 40));
        check.due("both", 1 | 1 << 8, mail.custodians(0));
        check.due("another one", 1, mail.meet(9, 0, 40));
        check.due("two buses", 1 << 8 | 1 << 9, mail.custodians(0));
        mail.minute(200);
        check.due("to its goal", 1, mail.meet(8, 2, 40));
        check.due("bus 9's is older", 0, mail.meet(9, 2, 40));
        check.due("freed", 4, mail.custodians(0));
    }

    private static void deliveredNewsFreeCopies() {
        VillageMail mail = Scenes.line();
        mail.household(1, 0, 9);
        Scenes.post(mail, 9, 0, 1, 0, 0);
        mail.minute(100);
        mail.breakOff(8, 0, 40);
        check.due("a piece is left", 1 | 1 << 8, mail.custodians(0));
        mail.minute(100);
        mail.meet(8, 1, 40);
        check.due("delivered", 1, mail.box(1, 0, 0));
        check.due("still left", 1, mail.custodians(0));
        mail.meet(10, 1, 0);
        check.due("not offered", 0, mail.meet(10, 0, 40));
        check.due("freed", 0, mail.custodians(0));
        check.due("known", 1, mail.status(0));
    }

    private static void breakOffAtTheKiosk() {
        VillageMail mail = Scenes.line();
        Scenes.post(mail, 24, 0, 2, 0, 0);
        mail.minute(100);
        check.due("two of three", 2, mail.breakOff(8, 0, 2));
        check.due("room: pieces 1 and 2 are left", 22, mail.store(0, 0));
        check.due("room in the bus", 8, mail.store(8, 0));
        check.due("piece 1 is there", 10, mail.spoil(0, 0, 1, 1, 0));
        check.due("piece 1 is freed, piece 2 moved", 1, mail.meet(8, 0, 40));
        check.due("all", 1 << 8, mail.custodians(0));
        check.due("room again", 24, mail.store(0, 0));
    }

    private static void breakOffAtTheBus() {
        VillageMail mail = Scenes.onTheWay(24, 0);
        mail.household(1, 0, 24);
        check.due("three", 3, mail.breakOff(8, 1, 3));
        check.due("delivered", 1, mail.box(1, 0, 0));
        check.due("the bus has the last one", 1 << 8, mail.custodians(0));
        check.due("one of ten", 9, mail.store(8, 0));
        check.due("it is the last", 24, mail.spoil(8, 0, 2, 7, 0));
        check.due("it learns", 0, mail.meet(8, 1, 3));
        check.due("freed", 0, mail.custodians(0));
        check.due("once", 1, mail.box(1, 0, 0));
    }

    private static void breakOffBothWays() {
        VillageMail mail = Scenes.onTheWay(16, 0);
        Scenes.post(mail, 16, 1, 2, 0, 0);
        check.due("two each way", 4, mail.breakOff(8, 1, 2));
        check.due("the bus learned both", 2, mail.custodians(0));
        check.due("kiosk 1 not its last one", 2 | 1 << 8, mail.custodians(1));
        check.due("kiosk 1's room", 21, mail.store(1, 0));
        check.due("the bus's room", 8, mail.store(8, 0));
    }

    /** The bus learns what it gave, as there is a later piece: so it has room for that one. */
    private static void breakOffOfAFullBus() {
        VillageMail mail = Scenes.line();
        Scenes.post(mail, 8, 0, 1, 0, 0);
        Scenes.post(mail, 32, 0, 2, 0, 0);
        Scenes.post(mail, 32, 0, 2, 0, 0);
        Scenes.post(mail, 8, 0, 2, 0, 0);
        mail.minute(100);
        check.due("full", 10, mail.meet(8, 0, 40));
        mail.minute(100);
        Scenes.post(mail, 16, 1, 2, 0, 0);
        check.due("one each way", 2, mail.breakOff(8, 1, 40));
        check.due("the bus has given it", 2, mail.custodians(0));
        check.due("the bus is full", 0, mail.store(8, 0));
        check.due("the second found no room", 1, mail.store(8, 3));
        check.due("kiosk 1 has three", 21, mail.store(1, 0));
    }

    private static void breakOffOfNothing() {
        VillageMail mail = Scenes.line();
        Scenes.post(mail, 16, 0, 2, 0, 0);
        mail.minute(100);
        mail.meet(8, 0, 40);
        check.due("nothing is moved", 0, mail.breakOff(8, 1, 40));
        check.due("nothing is taken back", 1 << 8, mail.custodians(0));
        check.due("kiosk 0 has its room", 24, mail.store(0, 0));
        check.due("n = 0", 0, mail.breakOff(8, 2, 0));
        check.due("nor then", 1 << 8, mail.custodians(0));
    }

    private static void rebootForgetsPieces() {
        VillageMail mail = Scenes.line();
        Scenes.post(mail, 1, 0, 2, 0, 0);
        mail.minute(100);
        mail.breakOff(8, 0, 40);
        mail.reboot(8);
        mail.meet(8, 5, 40);
        check.due("a copy and its hops stay: kiosk 0 learns them", 0, mail.meet(8, 0, 40));
        check.due("kiosk 0's is freed", 1 << 8, mail.custodians(0));

        VillageMail other = Scenes.line();
        other.stop(9, 0, 100);
        other.stop(9, 2, 310);
        other.publish();
        Scenes.post(other, 1, 0, 2, 0, 0);
        other.minute(100);
        other.breakOff(8, 0, 40);
        other.meet(9, 0, 40);
        other.minute(200);
        other.meet(9, 2, 40);
        other.reboot(9);
        other.meet(9, 5, 40);
        other.meet(8, 5, 40);
        check.due("bus 9 has nothing to tell", 4 | 1 << 8, other.custodians(0));
        other.reboot(2);
        check.due("kiosk 2 has by its copy", 0, other.meet(8, 2, 40));
        check.due("freed", 4, other.custodians(0));
    }

    private static void rebootForgetsLetters() {
        VillageMail mail = Scenes.onTheWay(8, 0);
        mail.household(1, 0, 8);
        mail.breakOff(8, 1, 40);
        mail.meet(9, 1, 0);
        mail.meet(9, 3, 0);
        mail.reboot(9);
        mail.meet(9, 0, 0);
        check.due("a bus forgets", 0, mail.status(0));
        mail.reboot(3);
        mail.meet(10, 3, 0);
        mail.meet(10, 0, 0);
        check.due("a kiosk on the way forgets", 0, mail.status(0));
        mail.reboot(1);
        check.due("its goal does not: nothing comes again", 0, mail.meet(8, 1, 40));
        check.due("once", 1, mail.box(1, 0, 0));
        mail.meet(8, 0, 0);
        check.due("told", 1, mail.status(0));
        mail.reboot(0);
        check.due("its own kiosk does not forget", 1, mail.status(0));
    }
}
