/** The run that README.md shows under Use, with the answers that it tells there. */
public final class ReadmeTest {
    private static final Check check = new Check();

    public static void main(String[] args) {
        VillageMail mail = new VillageMail();
        int letter = postingOf(mail);
        journeyOf(mail, letter);
        newsOf(mail, letter);
        check.end();
    }

    private static int postingOf(VillageMail mail) {
        check.due("the first stop", 1, mail.stop(8, 0, 600));
        check.due("the second stop", 2, mail.stop(8, 1, 660));
        check.due("the timetable's number", 1, mail.publish());
        check.due("kiosk 0 holds it", 1, mail.store(0, 1));
        mail.household(1, 0, 40);
        check.due("H", true, mail.key('H'));
        check.due("i", true, mail.key('i'));
        int letter = mail.post(0, 1, 0, 0);
        check.due("the letter's number", 0, letter);
        check.due("the promise", 660, mail.promise(letter));
        return letter;
    }

    private static void journeyOf(VillageMail mail, int letter) {
        check.due("the first stop's minute", 600, mail.minute(600));
        check.due("onto the bus", 1, mail.meet(8, 0, 9));
        check.due("the second stop's minute", 660, mail.minute(60));
        check.due("into kiosk 1", 1, mail.meet(8, 1, 9));
        check.due("the first byte", 'H', mail.read(1, 0, 0, 0));
        check.due("kiosk 0 does not know yet", 0, mail.status(letter));
    }

    private static void newsOf(VillageMail mail, int letter) {
        check.due("the bus hears of it", 0, mail.meet(8, 1, 9));
        check.due("a week behind the first meeting", 10680, mail.minute(10020));
        check.due("nothing to move", 0, mail.meet(8, 0, 9));
        check.due("kiosk 0 knows", 1, mail.status(letter));
    }
}
