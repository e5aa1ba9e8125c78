/** Promises 2, 3, 4, 19 and 20: stop, cancel, publish, promise, best. */
public final class TimetableTest {
    private static final Check check = new Check();

    public static void main(String[] args) {
        stops();
        fullTimetable();
        cancels();
        publications();
        bestArguments();
        simpleRides();
        changes();
        sameBusAgain();
        horizon();
        farMinutes();
        promises();
        check.end();
    }

    private static void stops() {
        VillageMail mail = new VillageMail();
        check.due("first stop", 1, mail.stop(8, 0, 0));
        check.due("last bus, kiosk, minute", 2, mail.stop(11, 7, 10079));
        check.badArgument("bus 7", () -> mail.stop(7, 0, 5));
        check.badArgument("bus 12", () -> mail.stop(12, 0, 5));
        check.badArgument("kiosk -1", () -> mail.stop(8, -1, 5));
        check.badArgument("kiosk 8", () -> mail.stop(8, 8, 5));
        check.badArgument("minute -1", () -> mail.stop(8, 0, -1));
        check.badArgument("minute 10080", () -> mail.stop(8, 0, 10080));
        check.badState("same minute, other kiosk", () -> mail.stop(8, 1, 0));
        check.badArgument("argument before state", () -> mail.stop(8, 8, 0));
        check.due("other bus, same minute", 3, mail.stop(9, 0, 0));
    }

    private static void fullTimetable() {
        VillageMail mail = new VillageMail();
        for (int i = 0; i < 24; i++) {
            check.due("stop " + i, i + 1, mail.stop(8 + i % 4, i % 8, 500 - i));
        }
        check.badState("a 25th", () -> mail.stop(8, 0, 1000));
        check.badArgument("a 25th of no bus", () -> mail.stop(-8, 0, 1000));
        check.due("cancel one", true, mail.cancel(8, 500));
        check.due("a 24th again", 24, mail.stop(8, 0, 1000));
    }

    private static void cancels() {
        VillageMail mail = new VillageMail();
        check.due("none there", false, mail.cancel(8, 3));
        check.due("no bus", false, mail.cancel(2, 3));
        check.due("no minute", false, mail.cancel(8, -1));
        mail.stop(8, 3, 3);
        mail.stop(8, 4, 4);
        check.due("another bus", false, mail.cancel(9, 3));
        check.due("another minute", false, mail.cancel(8, 5));
        check.due("a week later is no minute of the week", false, mail.cancel(8, 10083));
        check.due("there", true, mail.cancel(8, 3));
        check.due("gone", false, mail.cancel(8, 3));
        check.due("one is left", 2, mail.stop(8, 3, 3));
        mail.publish();
        check.due("the later stop stayed", 4, mail.best(3, 4, 0));
        mail.cancel(8, 4);
        check.due("published stays", 4, mail.best(3, 4, 0));
        mail.publish();
        check.due("published anew", -1, mail.best(3, 4, 0));
    }

    private static void publications() {
        VillageMail mail = new VillageMail();
        mail.stop(8, 0, 10);
        mail.stop(8, 1, 20);
        check.due("not published", -1, mail.best(0, 1, 0));
        check.due("kiosk 0 holds none", 0, mail.store(0, 1));
        for (int i = 1; i <= 6; i++) {
            check.due("number", i, mail.publish());
            check.due("kiosk 0 holds it", i, mail.store(0, 1));
            check.due("kiosk 1 does not", 0, mail.store(1, 1));
        }
        check.badState("a seventh", mail::publish);
        check.due("kiosk 0 still holds the sixth", 6, mail.store(0, 1));
        check.due("published", 20, mail.best(0, 1, 0));
    }

    private static void bestArguments() {
        VillageMail mail = new VillageMail();
        check.badArgument("kiosk -1", () -> mail.best(-1, 0, 0));
        check.badArgument("kiosk 8", () -> mail.best(8, 0, 0));
        check.badArgument("goal -1", () -> mail.best(0, -1, 0));
        check.badArgument("goal 8", () -> mail.best(0, 8, 0));
        check.badArgument("minute -1", () -> mail.best(0, 0, -1));
        check.badArgument("minute 2000000001", () -> mail.best(0, 0, 2000000001));
        check.due("there already", 2000000000, mail.best(7, 7, 2000000000));
        check.due("no stops", -1, mail.best(0, 7, 0));
    }

    private static void simpleRides() {
        VillageMail mail = Scenes.line();
        check.due("by one bus", 300, mail.best(0, 2, 0));
        check.due("board at that very minute", 300, mail.best(0, 2, 100));
        check.due("a minute late", 10380, mail.best(0, 2, 101));
        check.due("alight on the way", 200, mail.best(0, 1, 0));
        check.due("against the line, week after week", 10180, mail.best(2, 0, 0));
        check.due("from the middle", 10180, mail.best(1, 0, 50));
        check.due("later week", 5 * 10080 + 300, mail.best(0, 2, 4 * 10080 + 101));
        check.due("a kiosk without stops", -1, mail.best(0, 3, 0));
        check.due("from a kiosk without stops", -1, mail.best(3, 0, 0));
    }

    private static void changes() {
        VillageMail mail = new VillageMail();
        mail.stop(9, 1, 201);
        mail.stop(9, 2, 250);
        mail.stop(10, 1, 200);
        mail.stop(10, 3, 240);
        mail.stop(8, 1, 200);
        mail.stop(8, 0, 100);
        mail.publish();
        check.due("a change takes a minute", 250, mail.best(0, 2, 0));
        check.due("none at the same minute", 10320, mail.best(0, 3, 0));
        check.due("one who waits there leaves at it", 240, mail.best(1, 3, 200));
        check.due("and not behind it", 10320, mail.best(1, 3, 201));
    }

    private static void sameBusAgain() {
        VillageMail mail = new VillageMail();
        mail.stop(8, 0, 100);
        mail.stop(8, 1, 101);
        mail.stop(8, 0, 102);
        mail.stop(8, 2, 103);
        mail.publish();
        check.due("stay on it", 103, mail.best(0, 2, 100));
        check.due("board at its second stop", 103, mail.best(0, 2, 101));
        check.due("a bus's own kiosk", 101, mail.best(0, 1, 0));
    }

    private static void horizon() {
        VillageMail mail = new VillageMail();
        mail.stop(8, 0, 100);
        mail.stop(8, 1, 99);
        mail.stop(9, 1, 98);
        mail.stop(9, 2, 100);
        mail.publish();
        check.due("20160 minutes behind", 20260, mail.best(0, 2, 100));
        check.due("20161 minutes behind", -1, mail.best(0, 2, 99));
        check.due("in week 3", 3 * 10080 + 20260, mail.best(0, 2, 3 * 10080 + 100));
    }

    private static void farMinutes() {
        VillageMail mail = Scenes.line();
        int week = 2000000000 / 10080 * 10080;
        int next = week + 10080 + 200;
        check.due("at the last minute", next, mail.best(0, 1, 2000000000));
    }

    private static void promises() {
        VillageMail mail = Scenes.line();
        check.badArgument("no letter yet", () -> mail.promise(0));
        mail.minute(50);
        int first = Scenes.post(mail, 3, 0, 2, 0, 0);
        check.due("by kiosk 0's timetable", 300, mail.promise(first));
        int second = Scenes.post(mail, 3, 1, 2, 0, 0);
        check.due("kiosk 1 holds none", -1, mail.promise(second));
        check.due("though there is one", 300, mail.best(1, 2, 50));
        int third = Scenes.post(mail, 3, 4, 4, 0, 0);
        check.due("at its goal", 50, mail.promise(third));
        mail.minute(1000);
        mail.cancel(8, 300);
        mail.publish();
        check.due("what was found stays", 300, mail.promise(first));
        mail.meet(8, 0, 0);
        mail.meet(8, 1, 0);
        int fourth = Scenes.post(mail, 3, 1, 0, 0, 0);
        check.due("kiosk 1 holds one now", 20260, mail.promise(fourth));
        mail.reboot(0);
        check.due("kiosk 0 has forgotten its", -1, mail.promise(Scenes.post(mail, 1, 0, 1, 0, 0)));
        check.due("the postmaster has not", 10280, mail.best(0, 1, 1050));
        check.badArgument("no such letter", () -> mail.promise(5));
        check.badArgument("letter -1", () -> mail.promise(-1));
    }
}
