/** Edges of timetables and rides: full and empty ones, the week's last and first minute, the first and last that count. */
public final class EdgeRidesTest {
    private static final Check check = new Check();

    public static void main(String[] args) {
        theClockBeginsAtZero();
        theWeekTurnsRound();
        theClockIsInTheWeek();
        stopsAreAtMostTwentyFour();
        oneStopOfABusAtAMinute();
        emptyTimetables();
        changesAreInNoneTillPublished();
        sixTimetables();
        onlyKioskZeroHoldsIt();
        boardFromThatMinuteOn();
        alightBehindTheStopOfBoarding();
        weekAfterWeek();
        leaveAMinuteLater();
        leaveByTheSameBus();
        theGoalItself();
        arrivalsUpToTheHorizon();
        arrivalsOfASecondBoarding();
        farthestMinutes();
        promisesUpToTheHorizon();
        fromABusTheNextMinute();
        fromABusUpToTheHorizon();
        fromAKioskUpToTheHorizon();
        check.end();
    }

    private static void theClockBeginsAtZero() {
        VillageMail mail = new VillageMail();
        check.due("posted at minute 0", 0, mail.promise(Scenes.post(mail, 1, 3, 3, 0, 0)));
        check.due("the first minute", 1, mail.minute(1));
        check.due("the longest wait", 20001, mail.minute(20000));
        check.badArgument("no minute", () -> mail.minute(0));
        check.badArgument("a longer one", () -> mail.minute(20001));
        check.due("they took no time", 20002, mail.minute(1));
    }

    private static VillageMail overTheWeeksEnd() {
        VillageMail mail = new VillageMail();
        mail.stop(8, 0, 10079);
        mail.stop(8, 1, 0);
        mail.publish();
        return mail;
    }

    private static void theWeekTurnsRound() {
        VillageMail mail = overTheWeeksEnd();
        check.due("from the last minute to the first", 10080, mail.best(0, 1, 0));
        check.due("boarded at the last minute", 10080, mail.best(0, 1, 10079));
        check.due("a minute late", 20160, mail.best(0, 1, 10080));
        check.due("from the first minute to the last", 10079, mail.best(1, 0, 0));
        check.due("a minute late there", 20159, mail.best(1, 0, 1));
        check.due("boarded at the first minute of the next week", 20159, mail.best(1, 0, 10080));
        check.due("a minute late in the next week", 30239, mail.best(1, 0, 10081));
        check.due("weeks later", 70 * 10080, mail.best(0, 1, 70 * 10080 - 1));
    }

    private static void theClockIsInTheWeek() {
        VillageMail mail = overTheWeeksEnd();
        mail.minute(10079);
        check.due("the week's last minute", 10080, mail.promise(Scenes.post(mail, 1, 0, 1, 0, 0)));
        mail.minute(1);
        check.due("the next week's first", 20160, mail.promise(Scenes.post(mail, 1, 0, 1, 0, 0)));
        mail.minute(10079);
        check.due("the next week's last", 20160, mail.promise(Scenes.post(mail, 1, 0, 1, 0, 0)));
        mail.minute(1);
        check.due("the third week's first", 30240, mail.promise(Scenes.post(mail, 1, 0, 1, 0, 0)));
    }

    private static void stopsAreAtMostTwentyFour() {
        VillageMail mail = new VillageMail();
        for (int i = 0; i < 24; i++) {
            int kiosk = i == 0 ? 2 : i == 23 ? 1 : 0;
            check.due("stop " + i, i + 1, mail.stop(8, kiosk, 10079 - i));
        }
        check.badState("a 25th", () -> mail.stop(9, 0, 5));
        mail.publish();
        check.due("the 24th is in it", 10056 + 10080, mail.best(0, 1, 0));
        check.due("from the 24th to the first", 10079, mail.best(1, 2, 10056));
        mail.cancel(8, 10056);
        check.due("23 and one", 24, mail.stop(9, 0, 5));
        check.badState("a 25th again", () -> mail.stop(9, 0, 6));
    }

    private static void oneStopOfABusAtAMinute() {
        VillageMail mail = new VillageMail();
        mail.stop(8, 3, 0);
        check.badState("another kiosk", () -> mail.stop(8, 4, 0));
        check.badState("the same kiosk", () -> mail.stop(8, 3, 0));
        check.due("another bus", 2, mail.stop(9, 3, 0));
        check.due("a minute later", 3, mail.stop(8, 4, 1));
        check.due("a minute earlier, at the week's end", 4, mail.stop(8, 4, 10079));
        mail.cancel(8, 0);
        check.due("when it is free again", 4, mail.stop(8, 5, 0));
    }

    private static void emptyTimetables() {
        VillageMail mail = new VillageMail();
        check.due("none published: never", -1, mail.best(0, 1, 0));
        check.due("but where one is", 7, mail.best(1, 1, 7));
        check.due("one without stops", 1, mail.publish());
        check.due("by that one: never", -1, mail.best(0, 1, 0));
        mail.stop(8, 0, 1);
        mail.stop(8, 1, 2);
        mail.publish();
        check.due("by one with stops", 2, mail.best(0, 1, 0));
        mail.cancel(8, 1);
        mail.cancel(8, 2);
        check.due("emptied again", 3, mail.publish());
        check.due("never again", -1, mail.best(0, 1, 0));
        check.due("an empty one has room", 1, mail.stop(8, 0, 1));
    }

    private static void changesAreInNoneTillPublished() {
        VillageMail mail = Scenes.line();
        mail.stop(9, 0, 10);
        mail.stop(9, 2, 20);
        check.due("a stop more is not in it", 300, mail.best(0, 2, 0));
        check.due("nor by kiosk 0", 300, mail.promise(Scenes.post(mail, 1, 0, 2, 0, 0)));
        mail.cancel(8, 300);
        check.due("a stop that is taken away still is", 300, mail.best(1, 2, 0));
        mail.publish();
        check.due("published", 20, mail.best(0, 2, 0));
        check.due("by kiosk 0, too", 20, mail.promise(Scenes.post(mail, 1, 0, 2, 0, 0)));
        check.due("the stop is away", -1, mail.best(1, 2, 0));
    }

    private static void sixTimetables() {
        VillageMail mail = new VillageMail();
        mail.stop(8, 0, 100);
        for (int i = 1; i <= 6; i++) {
            mail.stop(8, i, 100 + i);
            check.due("number", i, mail.publish());
            check.due("its newest stop", 100 + i, mail.best(0, i, 0));
            mail.meet(8, 0, 0);
            check.due("a bus takes it", i, mail.store(8, 1));
        }
        mail.stop(8, 7, 107);
        check.badState("a seventh", mail::publish);
        check.due("the sixth is the last", -1, mail.best(0, 7, 0));
    }

    private static void onlyKioskZeroHoldsIt() {
        VillageMail mail = Scenes.line();
        check.due("kiosk 0", 1, mail.store(0, 1));
        for (int i = 1; i < 12; i++) {
            check.due("store " + i, 0, mail.store(i, 1));
        }
        check.due("kiosk 1 finds nothing", -1, mail.promise(Scenes.post(mail, 1, 1, 2, 0, 0)));
    }

    private static void boardFromThatMinuteOn() {
        VillageMail mail = Scenes.line();
        check.due("a minute early", 200, mail.best(0, 1, 99));
        check.due("at the very minute", 200, mail.best(0, 1, 100));
        check.due("a minute late", 10280, mail.best(0, 1, 101));
    }

    private static void alightBehindTheStopOfBoarding() {
        VillageMail mail = new VillageMail();
        mail.stop(8, 1, 99);
        mail.stop(8, 0, 100);
        mail.stop(9, 0, 100);
        mail.stop(9, 1, 101);
        mail.publish();
        check.due("a stop a minute behind that one", 101, mail.best(0, 1, 100));
        mail.cancel(9, 101);
        mail.publish();
        check.due("a stop a minute before it is a week away", 10179, mail.best(0, 1, 100));
        check.due("also from the minute of that stop", 10179, mail.best(0, 1, 99));
    }

    private static void weekAfterWeek() {
        VillageMail mail = new VillageMail();
        mail.stop(8, 0, 100);
        mail.stop(8, 1, 50);
        mail.stop(9, 1, 60);
        mail.stop(9, 2, 40);
        mail.publish();
        check.due("to kiosk 1 in the next week", 10130, mail.best(0, 1, 100));
        check.due("to kiosk 2 in the week behind that", 20200, mail.best(0, 2, 100));
    }

    private static void leaveAMinuteLater() {
        for (int later = 0; later < 3; later++) {
            VillageMail mail = new VillageMail();
            mail.stop(8, 0, 100);
            mail.stop(8, 1, 200);
            mail.stop(9, 1, 200 + later);
            mail.stop(9, 2, 300);
            mail.publish();
            check.due("a change of " + later, later == 0 ? 10380 : 300, mail.best(0, 2, 100));
            check.due("one who was there", 300, mail.best(1, 2, 200));
        }
    }

    private static void leaveByTheSameBus() {
        VillageMail mail = new VillageMail();
        mail.stop(8, 0, 100);
        mail.stop(8, 1, 200);
        mail.stop(8, 1, 201);
        mail.stop(8, 2, 202);
        mail.publish();
        check.due("on it or off it", 202, mail.best(0, 2, 100));
        check.due("boarded at the second stop there", 202, mail.best(1, 2, 201));
        check.due("alighted at the first stop there", 200, mail.best(0, 1, 100));
    }

    private static void theGoalItself() {
        VillageMail mail = Scenes.line();
        for (int kiosk = 0; kiosk < 8; kiosk++) {
            check.due("at minute 0", 0, mail.best(kiosk, kiosk, 0));
            check.due("at a stop's minute", 200, mail.best(kiosk, kiosk, 200));
            check.due("at the last minute", 2000000000, mail.best(kiosk, kiosk, 2000000000));
        }
    }

    /** From kiosk 0 at a minute of the week just 20160 minutes to kiosk 2: a week on bus 8, and a week till bus 9. */
    private static void twoWeeks(VillageMail mail, int minute) {
        mail.stop(8, 0, minute);
        mail.stop(8, 1, Math.floorMod(minute - 1, 10080));
        mail.stop(9, 1, Math.floorMod(minute - 2, 10080));
        mail.stop(9, 2, minute);
        mail.publish();
    }

    private static void arrivalsUpToTheHorizon() {
        int[] minutes = {0, 1, 2, 5000, 10078, 10079};
        for (int minute : minutes) {
            VillageMail mail = new VillageMail();
            twoWeeks(mail, minute);
            for (int week = 1; week < 4; week++) {
                int from = week * 10080 + minute;
                check.due("20160 minutes from " + from, from + 20160, mail.best(0, 2, from));
                check.due("20161 minutes from " + (from - 1), -1, mail.best(0, 2, from - 1));
                check.due("a minute late, too", -1, mail.best(0, 2, from + 1));
            }
        }
    }

    private static void arrivalsOfASecondBoarding() {
        VillageMail mail = new VillageMail();
        mail.stop(8, 1, 500);
        mail.stop(8, 0, 501);
        mail.publish();
        check.due("boarded at once: a week but a minute", 501 + 10079, mail.best(0, 1, 501));
        check.due("just missed: two weeks but two minutes", 502 + 20158, mail.best(0, 1, 502));
    }

    private static void farthestMinutes() {
        VillageMail mail = new VillageMail();
        int last = 2000000000;
        twoWeeks(mail, last % 10080);
        check.due("from the last minute to its horizon", last + 20160, mail.best(0, 2, last));
        check.due("from the minute before: never", -1, mail.best(0, 2, last - 1));
        check.badArgument("a minute behind the last", () -> mail.best(0, 2, last + 1));
        check.badArgument("a minute before the first", () -> mail.best(0, 2, -1));
    }

    private static void promisesUpToTheHorizon() {
        VillageMail mail = new VillageMail();
        twoWeeks(mail, 100);
        mail.minute(99);
        check.due("20161 minutes", -1, mail.promise(Scenes.post(mail, 1, 0, 2, 0, 0)));
        mail.minute(1);
        check.due("20160 minutes", 20260, mail.promise(Scenes.post(mail, 1, 0, 2, 0, 0)));
        mail.minute(1);
        check.due("late", -1, mail.promise(Scenes.post(mail, 1, 0, 2, 0, 0)));
        mail.minute(10079);
        check.due("in the next week", 30340, mail.promise(Scenes.post(mail, 1, 0, 2, 0, 0)));
    }

    /** A kiosk without stops gives its letter to a bus just if the arrival from the bus is not never. */
    private static int givenToBus(VillageMail mail, int minute) {
        mail.meet(8, 0, 0);
        mail.minute(minute);
        Scenes.post(mail, 1, 5, 2, 0, 0);
        return mail.meet(8, 5, 40);
    }

    private static void fromABusTheNextMinute() {
        for (int stop = 99; stop < 103; stop++) {
            VillageMail mail = new VillageMail();
            mail.stop(8, 2, stop);
            mail.stop(9, 5, 101);
            mail.stop(9, 2, 110);
            mail.publish();
            check.due("on bus 8 at 100, its stop at " + stop, stop > 100 ? 1 : 0, givenToBus(mail, 100));
        }
    }

    /** Bus 8 comes to kiosk 1 in a week, and bus 9 from there to kiosk 2 in another one, and so many minutes more. */
    private static void fromABusUpToTheHorizon() {
        int[] minutes = {3, 5000, 10077, 10079};
        for (int minute : minutes) {
            for (int more = -1; more < 2; more++) {
                VillageMail mail = new VillageMail();
                mail.stop(8, 1, minute);
                mail.stop(9, 1, minute - 2);
                mail.stop(9, 2, (minute + more) % 10080);
                mail.publish();
                check.due("20160 minutes and " + more + " from " + minute, more > 0 ? 0 : 1, givenToBus(mail, minute));
            }
        }
    }

    /** The bus, whose arrival is never by the new timetable, gives its letter to the kiosk if that one's is not. */
    private static void fromAKioskUpToTheHorizon() {
        for (int minute = 99; minute < 102; minute++) {
            VillageMail mail = new VillageMail();
            mail.stop(8, 2, 7000);
            mail.publish();
            Scenes.post(mail, 1, 0, 2, 0, 0);
            check.due("to bus 8", 1, mail.meet(8, 0, 40));
            mail.cancel(8, 7000);
            mail.stop(10, 0, 101);
            mail.stop(10, 1, 100);
            mail.stop(9, 1, 99);
            mail.stop(9, 2, 101);
            mail.publish();
            mail.minute(minute);
            check.due("the next minute counts, at " + minute, minute == 100 ? 1 : 0, mail.meet(8, 0, 40));
        }
    }
}
